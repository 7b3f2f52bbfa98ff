/-! THE REFERENCE asks: a test -/
theorem rm_init {G : Nat → Nat} {d r n : Nat} {C : mQ} {X : mX} {x1 x4 x5 x6 x7 x8 x9 : Option mV} (hn : n ≤ 14) : ∀ (m j : Nat) (h : mH), RN r h → j + m = n + 1 → (∀ i, i < j → hvi h (r + 31) i = b01 (i == 0)) →
    (∀ h' x3, chJ (sR r [31]) h h' → RB r h' n (fun j => j == 0) → wp G d 133 38 [some (.inr (.inl (some r))), x1, some (.inl (n : Int)), x3, x4, x5, x6, x7, x8, x9] [] h' 0 0 C X) →
    wp G d 133 100012 [some (.inr (.inl (some r))), x1, some (.inl (n : Int)), some (.inl (j : Int)), x4, x5, x6, x7, x8, x9] [] h 0 0 C X := by
  intro m
  induction m with
  | zero =>
    intro j h HR hj HB hC
    have R0 := HR.1; have R_line := rn_line HR; have R_begins := rn_begins HR; have R_ends := rn_ends HR; have R_path := rn_path HR; have R_reach := rn_reach HR
    have hz := fun x3 => hC h x3 chJ_refl (fun i hi => HB i (by omega))
    rw [wp_hd]
    (repeat' (first | with_reducible assumption | (refine And.intro ?_ ?_) | (with_reducible intro _) | (simp [wp_ne 38, wpE, mk_X11_matches, mg, mc_X11_matches, lget, lset, popN, cats, rcv, entL, isArr, kC_s, kC_n, st1, st2, st3, st4, st5, st6, st7, st8, st9, st10, st11, st12, st13, st14, st15, st16, st17, st18, st19, st20, st21, st22, st23, st24, st25, st26, st27, st28, st29, st30, st31, st32, st33, st34, st35, st36, st37, st38, st39, st40, st41, st42, st43, st44, st45, st46, st47, st48, st49, st50, st51, st52, st53, st54, st55, st56, st57, st58, st59, st60, st61, st62, st63, st64, st65, st66, st67, st68, st69, st70, st71, st72, st73, st74, st75, st76, st77, st78, st79, st80, st81, st82, st83, st84, st85, st86, st87, st88, st89, st90, st91, R0, R_line, R_begins, R_ends, R_path, R_reach, show (n : Int) < (j : Int) by omega]))) <;> (try (first | omega | exact hz))
    all_goals exact hz _
  | succ m ih =>
    intro j h HR hj HB hC
    have R0 := HR.1; have R_line := rn_line HR; have R_begins := rn_begins HR; have R_ends := rn_ends HR; have R_path := rn_path HR; have R_reach := rn_reach HR
    have q1 : ∀ v, chJ (sR r [31]) h (hsetI h (r + 31) j v) := fun v => chJ_set (by simp [sR])
    have hz := ih (j + 1) (hsetI h (r + 31) j (b01 (j == 0))) (RN_ch (q1 _) HR) (by omega) (fun i hi => by
      rw [hvi_I]
      by_cases q : i = j
      · rw [if_pos ⟨rfl, q⟩, q]
      · rw [if_neg (fun z => q z.2)]; exact HB i (by omega)) (fun h' x3 s1 s2 => hC h' x3 (chJ_trans (q1 _) s1) s2)
    rw [wp_hd]
    by_cases hj0 : j = 0
    · subst hj0
      simp [b01] at hz
      (repeat' (first | with_reducible assumption | (refine And.intro ?_ ?_) | (with_reducible intro _) | (simp [wp_ne 38, wpE, mk_X11_matches, mg, mc_X11_matches, lget, lset, popN, cats, rcv, entL, isArr, kC_s, kC_n, st1, st2, st3, st4, st5, st6, st7, st8, st9, st10, st11, st12, st13, st14, st15, st16, st17, st18, st19, st20, st21, st22, st23, st24, st25, st26, st27, st28, st29, st30, st31, st32, st33, st34, st35, st36, st37, st38, st39, st40, st41, st42, st43, st44, st45, st46, st47, st48, st49, st50, st51, st52, st53, st54, st55, st56, st57, st58, st59, st60, st61, st62, st63, st64, st65, st66, st67, st68, st69, st70, st71, st72, st73, st74, st75, st76, st77, st78, st79, st80, st81, st82, st83, st84, st85, st86, st87, st88, st89, st90, st91, R0, R_line, R_begins, R_ends, R_path, R_reach, inR, show ¬ (n : Int) < 0 by omega]))) <;> (try (first | omega | exact hz))
    · have hj1 : ¬ (j : Int) = 0 := by omega
      simp [hj0, b01] at hz
      (repeat' (first | with_reducible assumption | (refine And.intro ?_ ?_) | (with_reducible intro _) | (simp [wp_ne 38, wpE, mk_X11_matches, mg, mc_X11_matches, lget, lset, popN, cats, rcv, entL, isArr, kC_s, kC_n, st1, st2, st3, st4, st5, st6, st7, st8, st9, st10, st11, st12, st13, st14, st15, st16, st17, st18, st19, st20, st21, st22, st23, st24, st25, st26, st27, st28, st29, st30, st31, st32, st33, st34, st35, st36, st37, st38, st39, st40, st41, st42, st43, st44, st45, st46, st47, st48, st49, st50, st51, st52, st53, st54, st55, st56, st57, st58, st59, st60, st61, st62, st63, st64, st65, st66, st67, st68, st69, st70, st71, st72, st73, st74, st75, st76, st77, st78, st79, st80, st81, st82, st83, st84, st85, st86, st87, st88, st89, st90, st91, R0, R_line, R_begins, R_ends, R_path, R_reach, hj0, hj1, inR, show ¬ (n : Int) < (j : Int) by omega]))) <;> (try (first | omega | exact hz))
theorem r_matches {G : Nat → Nat} {d r n fr k : Nat} {h : mH} {C : mQ} {X : mX} {L w : List Int} (hd : 3 ≤ d) (hl : L.length ≤ 100) (HR : RN r h) (HP : RP r h L) (HW : RW r h L) (hk : k < (wds L).length) (hn : n ≤ 14) (hw : w.length = n) (hfn : fr + n ≤ 1000) (h44 : hvi h r 44 = (fr : Int)) (h45 : hvi h r 45 = ((fr + n : Nat) : Int)) (hr : ro h (r + 26) fr w) (hC : ∀ h', chJ (sR r [31]) h h' → C (some (.inl (b01 (glM L k w)))) h') :
    callG (wp G) d 133 0 0 10 [.inr (.inl (some r)), .inl (k : Int)] h C X := by
  have R0 := HR.1; have R_line := rn_line HR; have R_begins := rn_begins HR; have R_ends := rn_ends HR; have R_path := rn_path HR; have R_reach := rn_reach HR
  have hwl := wS_le L k
  have e1 : ((fr + n : Nat) : Int) - (fr : Int) = (n : Int) := by omega
  have h50 := wds_len hl
  refine cg 2 (by omega) (fun d hd => ?_)
  have hd0 : (0 < d) = True := eq_true (by omega)
  have hz := fun x4 x5 x6 x7 x8 x9 => rm_init (G := G) (d := d) (C := C) (X := fun _ _ => False) (x1 := some (.inl (k : Int))) (x4 := x4) (x5 := x5) (x6 := x6) (x7 := x7) (x8 := x8) (x9 := x9) hn (n + 1) 0 h HR (by omega) (fun i hi => by omega) (fun h1 x3 q1 B1 => by
    have HR1 := RN_ch q1 HR
    have R0 := HR1.1; have R_line := rn_line HR1; have R_begins := rn_begins HR1; have R_ends := rn_ends HR1; have R_path := rn_path HR1; have R_reach := rn_reach HR1
    have HW1 := RW_ch q1 (by simp) HW
    have b1 := (HW1.2 k hk).1
    have b2 := (HW1.2 k hk).2
    have hz := fun x5 x6 x7 x8 x9 => rm_main (G := G) (d := d) (C := C) (X := fun _ _ => False) (x1 := some (.inl (k : Int))) (by omega) hl hwl.2 hn hw hfn 101 (wS L k) (fun j => j == 0) h1 x5 x6 x7 x8 x9 (by omega) (by omega) HR1 (RP_ch q1 (by simp) (by simp) (by simp) HP) (by rw [chJ_fld q1 (by simp) (by simp)]; exact h44) (fun j hj => by rw [chJ_row q1 (by omega) (by simp)]; exact hr j hj) B1 (fun h' s1 => hC h' (chJ_trans q1 s1))
    (repeat' (first | with_reducible assumption | (refine And.intro ?_ ?_) | (with_reducible intro _) | (simp [wp_eq, wpE, mk_X11_matches, mg, mc_X11_matches, lget, lset, popN, cats, rcv, entL, isArr, kC_s, kC_n, st1, st2, st3, st4, st5, st6, st7, st8, st9, st10, st11, st12, st13, st14, st15, st16, st17, st18, st19, st20, st21, st22, st23, st24, st25, st26, st27, st28, st29, st30, st31, st32, st33, st34, st35, st36, st37, st38, st39, st40, st41, st42, st43, st44, st45, st46, st47, st48, st49, st50, st51, st52, st53, st54, st55, st56, st57, st58, st59, st60, st61, st62, st63, st64, st65, st66, st67, st68, st69, st70, st71, st72, st73, st74, st75, st76, st77, st78, st79, st80, st81, st82, st83, st84, st85, st86, st87, st88, st89, st90, st91, R0, R_line, R_begins, R_ends, R_path, R_reach, b1, b2]))) <;> (try (first | omega | exact hz))
    all_goals first | omega | exact hz _ _ _ _ _)
  (repeat' (first | with_reducible assumption | (refine And.intro ?_ ?_) | (with_reducible intro _) | (simp [wp_eq, wpE, mk_X11_matches, mg, mc_X11_matches, lget, lset, popN, cats, rcv, entL, isArr, kC_s, kC_n, st1, st2, st3, st4, st5, st6, st7, st8, st9, st10, st11, st12, st13, st14, st15, st16, st17, st18, st19, st20, st21, st22, st23, st24, st25, st26, st27, st28, st29, st30, st31, st32, st33, st34, st35, st36, st37, st38, st39, st40, st41, st42, st43, st44, st45, st46, st47, st48, st49, st50, st51, st52, st53, st54, st55, st56, st57, st58, st59, st60, st61, st62, st63, st64, st65, st66, st67, st68, st69, st70, st71, st72, st73, st74, st75, st76, st77, st78, st79, st80, st81, st82, st83, st84, st85, st86, st87, st88, st89, st90, st91, R0, R_line, R_begins, R_ends, R_path, R_reach, -Int.natCast_add, h44, h45, e1, inR]))) <;> (try (first | omega | exact hz))
  all_goals first | omega | exact hz _ _ _ _ _ _
theorem rc_loop {G : Nat → Nat} {d r k : Nat} {h : mH} {L : List Int} {C : mQ} {X : mX} {x1 x3 x4 : Option mV} (HR : RN r h) (hl : L.length ≤ 100) (HP : RP r h L) (H : RW r h L) (hk : k < (wds L).length) : ∀ (m i : Nat) (v : Int), i + m = (wd L k).length → m ≤ 6 → 0 ≤ v → v ≤ Bm m → ((wd L k).drop i).all dig = true →
    (∀ x6, wp G d 134 78 [some (.inr (.inl (some r))), x1, some (.inl (k : Int)), x3, x4, some (.inl (vlu v ((wd L k).drop i))), x6] [] h 0 0 C X) →
    wp G d 134 100043 [some (.inr (.inl (some r))), x1, some (.inl (k : Int)), x3, x4, some (.inl v), some (.inl ((wS L k : Int) + (i : Int)))] [] h 0 0 C X := by
  have R0 := HR.1; have R_line := rn_line HR; have R_begins := rn_begins HR; have R_ends := rn_ends HR
  have h1 := (H.2 k hk).1
  have h2 := (H.2 k hk).2
  have h3 := wS_le L k
  have h4 := wd_len L k
  have h5 := wds_len hl
  intro m
  induction m with
  | zero =>
    intro i v hi hm hv hvb had hC
    rw [List.drop_of_length_le (by omega)] at hC
    simp only [vlu] at hC
    have e1 : (wS L k : Int) + (i : Int) = (wE L k : Int) := by omega
    have hz := hC
    rw [wp_hd, e1]
    (repeat' (first | with_reducible assumption | (refine And.intro ?_ ?_) | (with_reducible intro _) | (simp [wp_ne 78, wpE, mk_X11_compares, mg, mc_X11_compares, lget, lset, popN, cats, rcv, entL, isArr, kC_s, kC_n, st1, st2, st3, st4, st5, st6, st7, st8, st9, st10, st11, st12, st13, st14, st15, st16, st17, st18, st19, st20, st21, st22, st23, st24, st25, st26, st27, st28, st29, st30, st31, st32, st33, st34, st35, st36, st37, st38, st39, st40, st41, st42, st43, st44, st45, st46, st47, st48, st49, st50, st51, st52, st53, st54, st55, st56, st57, st58, st59, st60, st61, st62, st63, st64, st65, st66, st67, st68, st69, st70, st71, st72, st73, st74, st75, st76, st77, st78, st79, st80, st81, st82, st83, st84, st85, st86, st87, st88, st89, st90, st91, R0, R_line, R_begins, R_ends, h1, h2]))) <;> (try (first | omega | exact hz))
    all_goals exact hz _
  | succ m ih =>
    intro i v hi hm hv hvb had hC
    have hc : (wd L k).drop i = lf (wd L k) i :: (wd L k).drop (i + 1) := by
      rw [List.drop_eq_getElem_cons (by omega)]
      simp [lf, List.getElem?_eq_getElem (show i < (wd L k).length by omega)]
    rw [hc] at had hC
    simp only [vlu] at hC
    rw [List.all_cons, Bool.and_eq_true] at had
    have hdg : 48 ≤ lf (wd L k) i ∧ lf (wd L k) i ≤ 57 := by have := had.1; unfold dig at this; simpa using this
    have ck := RP_wd (k := k) (i := i) hl HP (by omega)
    have e1 : ((wS L k : Int) + (i : Int)).toNat = wS L k + i := by omega
    have hst := Bm_step m (by omega)
    have hbm := Bm_le m (by omega)
    have e6 : 10 * v + lf (wd L k) i - 48 = v * 10 + (lf (wd L k) i - 48) := by omega
    have hz := ih (i + 1) (v * 10 + (lf (wd L k) i - 48)) (by omega) (by omega) (by omega) (by omega) had.2 hC
    rw [← e6, show ((i + 1 : Nat) : Int) = (i : Int) + 1 by omega, ← Int.add_assoc] at hz
    generalize lf (wd L k) i = z at *
    rw [wp_hd]
    (repeat' (first | with_reducible assumption | (refine And.intro ?_ ?_) | (with_reducible intro _) | (simp [wp_ne 78, wpE, mk_X11_compares, mg, mc_X11_compares, lget, lset, popN, cats, rcv, entL, isArr, kC_s, kC_n, st1, st2, st3, st4, st5, st6, st7, st8, st9, st10, st11, st12, st13, st14, st15, st16, st17, st18, st19, st20, st21, st22, st23, st24, st25, st26, st27, st28, st29, st30, st31, st32, st33, st34, st35, st36, st37, st38, st39, st40, st41, st42, st43, st44, st45, st46, st47, st48, st49, st50, st51, st52, st53, st54, st55, st56, st57, st58, st59, st60, st61, st62, st63, st64, st65, st66, st67, st68, st69, st70, st71, st72, st73, st74, st75, st76, st77, st78, st79, st80, st81, st82, st83, st84, st85, st86, st87, st88, st89, st90, st91, R0, R_line, R_begins, R_ends, h1, h2, e1, ck, inR, show ¬ (wE L k : Int) ≤ (wS L k : Int) + (i : Int) by omega, show (wS L k : Int) + (i : Int) < 100 by omega, show (0 : Int) ≤ (wS L k : Int) + (i : Int) by omega]))) <;> (try (first | omega | exact hz))
