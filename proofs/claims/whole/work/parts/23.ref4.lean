/-! THE REFERENCE: walk, new places, nodes -/
theorem r_walk {G : Nat → Nat} {d r : Nat} {h : mH} {C : mQ} {X : mX} {T : aT} {Es : Nat → List aE} {here : Nat} {fol : Bool} {u : List Int} (hd : 4 ≤ d) (hW : wfW T) (hU : ∀ n v, n < 48 → T n = some v → unq (nE v)) (HR : RN r h) (HT : RT r h T Es here) (hh : here < 48) (hu : ro h (r + 17) 0 u) (h25 : hvi h r 25 = (u.length : Int)) (hu1 : ¬ u = []) (bu : bd u) (hul : u.length ≤ 100)
    (hC : ∀ h', chJ (sR r [17, 18, 125, 126]) h h' → (∀ (n : Nat) c, wkR T fol here u = ((n : Int), c) → n < 48 ∧ cmR r h' Es n c) → C (some (.inl (wkR T fol here u).1)) h') :
    callG (wp G) d 107 0 0 8 [.inr (.inl (some r)), .inl (b01 fol)] h C X := by
  have R0 := HR.1; have R_kinds := rn_kinds HR; have R_bitsOf := rn_bitsOf HR; have R_parents := rn_parents HR; have R_targets := rn_targets HR; have R_way := rn_way HR
  have hul1 : 0 < u.length := Nat.pos_of_ne_zero (fun q => hu1 (List.length_eq_zero_iff.mp q))
  have c0 : hvi h (r + 17) 0 = lf u 0 := by have := hu 0 hul1; simpa using this
  have h13 := HT.1
  have hq : chJ (sR r [17, 18, 125, 126]) h (hsetI h r 26 (-1)) := chJ_set (by simp [sR])
  have hune : ¬ u.length = 0 := by omega
  have hz := fun (d : Nat) (hd : 3 ≤ d) => walk_loop (G := G) (d := d) (C := C) (X := fun _ _ => False) (T := T) (Es := Es) (here := here) (fol := fol) hd hW hU 421 (hsetI h r 26 (-1)) (if lf u 0 = 47 then 0 else here) 0 none u 0 none none none (by omega) (RN_ch hq HR) (RT_ch hq (by simp) HT) (by omega) (by split <;> omega) (by simp [hty_I, hvi_I, hvr_I, hvl_I, hsz_I, hty_R, hvi_R, hvr_R, hvl_R, hsz_R, hty_L, hvi_L, hvr_L, hvl_L, hsz_L, hty_P, hvi_P, hvr_P, hvl_P, hsz_P, hty_C, hvi_C, hvr_C, hvl_C, hsz_C, h25]) (by omega) (fun i hi => by simp [hty_I, hvi_I, hvr_I, hvl_I, hsz_I, hty_R, hvi_R, hvr_R, hvl_R, hsz_R, hty_L, hvi_L, hvr_L, hvl_L, hsz_L, hty_P, hvi_P, hvr_P, hvl_P, hsz_P, hty_C, hvi_C, hvr_C, hvl_C, hsz_C]; have := hu i hi; simpa using this) bu (fun q => absurd q hu1) (by simp [cmR, hty_I, hvi_I, hvr_I, hvl_I, hsz_I, hty_R, hvi_R, hvr_R, hvl_R, hsz_R, hty_L, hvi_L, hvr_L, hvl_L, hsz_L, hty_P, hvi_P, hvr_P, hvl_P, hsz_P, hty_C, hvi_C, hvr_C, hvl_C, hsz_C]) (fun h' q1 q2 => hC h' (chJ_trans hq q1) q2)
  refine cg 3 (by omega) (fun d hd => ?_)
  have hd0 : (0 < d) = True := eq_true (by omega)
  by_cases h47 : lf u 0 = 47
  · rw [if_pos h47] at hz
    (repeat' (first | with_reducible assumption | (refine And.intro ?_ ?_) | (with_reducible intro _) | (simp [wp_eq, wpE, mk_X11_walk, mg, mc_X11_walk, lget, lset, popN, cats, rcv, entL, isArr, kC_s, kC_n, st1, st2, st3, st4, st5, st6, st7, st8, st9, st10, st11, st12, st13, st14, st15, st16, st17, st18, st19, st20, st21, st22, st23, st24, st25, st26, st27, st28, st29, st30, st31, st32, st33, st34, st35, st36, st37, st38, st39, st40, st41, st42, st43, st44, st45, st46, st47, st48, st49, st50, st51, st52, st53, st54, st55, st56, st57, st58, st59, st60, st61, st62, st63, st64, st65, st66, st67, st68, st69, st70, st71, st72, st73, st74, st75, st76, st77, st78, st79, st80, st81, st82, st83, st84, st85, st86, st87, st88, st89, st90, st91, R0, R_kinds, R_bitsOf, R_parents, R_targets, R_way, h25, hune, c0, h47, h13, hty_I, hvi_I, hvr_I, hvl_I, hsz_I, hty_R, hvi_R, hvr_R, hvl_R, hsz_R, hty_L, hvi_L, hvr_L, hvl_L, hsz_L, hty_P, hvi_P, hvr_P, hvl_P, hsz_P, hty_C, hvi_C, hvr_C, hvl_C, hsz_C]))) <;> (try (first | omega | exact hz))
    all_goals exact hz d hd
  · rw [if_neg h47] at hz
    (repeat' (first | with_reducible assumption | (refine And.intro ?_ ?_) | (with_reducible intro _) | (simp [wp_eq, wpE, mk_X11_walk, mg, mc_X11_walk, lget, lset, popN, cats, rcv, entL, isArr, kC_s, kC_n, st1, st2, st3, st4, st5, st6, st7, st8, st9, st10, st11, st12, st13, st14, st15, st16, st17, st18, st19, st20, st21, st22, st23, st24, st25, st26, st27, st28, st29, st30, st31, st32, st33, st34, st35, st36, st37, st38, st39, st40, st41, st42, st43, st44, st45, st46, st47, st48, st49, st50, st51, st52, st53, st54, st55, st56, st57, st58, st59, st60, st61, st62, st63, st64, st65, st66, st67, st68, st69, st70, st71, st72, st73, st74, st75, st76, st77, st78, st79, st80, st81, st82, st83, st84, st85, st86, st87, st88, st89, st90, st91, R0, R_kinds, R_bitsOf, R_parents, R_targets, R_way, h25, hune, c0, h47, h13, hty_I, hvi_I, hvr_I, hvl_I, hsz_I, hty_R, hvi_R, hvr_R, hvl_R, hsz_R, hty_L, hvi_L, hvr_L, hvl_L, hsz_L, hty_P, hvi_P, hvr_P, hvl_P, hsz_P, hty_C, hvi_C, hvr_C, hvl_C, hsz_C]))) <;> (try (first | omega | exact hz))
    all_goals exact hz d hd
theorem r_walkWord {G : Nat → Nat} {d r k : Nat} {h : mH} {C : mQ} {X : mX} {T : aT} {Es : Nat → List aE} {here : Nat} {fol : Bool} {L : List Int} (hd : 5 ≤ d) (hW : wfW T) (hU : ∀ n v, n < 48 → T n = some v → unq (nE v)) (HR : RN r h) (HT : RT r h T Es here) (hh : here < 48) (HP : RP r h L) (HW : RW r h L) (hl : L.length ≤ 100) (bL : bd L)
    (hF : ¬ k < (wds L).length → C (some (.inl (-2))) h)
    (hC : k < (wds L).length → ∀ h', chJ (sR r [17, 18, 125, 126]) h h' → (∀ (n : Nat) c, wkR T fol here (wd L k) = ((n : Int), c) → n < 48 ∧ cmR r h' Es n c) → C (some (.inl (wkR T fol here (wd L k)).1)) h') :
    callG (wp G) d 108 0 0 3 [.inr (.inl (some r)), .inl (k : Int), .inl (b01 fol)] h C X := by
  have R0 := HR.1; have R_begins := rn_begins HR; have R_ends := rn_ends HR
  have h16 := HW.1
  have h50 := wds_len hl
  refine cg 4 (by omega) (fun d hd => ?_)
  have hd0 : (0 < d) = True := eq_true (by omega)
  by_cases hk : k < (wds L).length
  · have hw1 := (HW.2 k hk).1
    have hw2 := (HW.2 k hk).2
    have hat := wds_at hk
    have hwl := wd_len L k
    have e1 : wE L k = wS L k + (wd L k).length := by omega
    rw [e1] at hw2
    have hro : ro h (r + 13) (wS L k) (wd L k) := fun i hi => RP_wd hl HP hi
    simp [wp_eq, wpE, mk_X11_walkWord, mg, mc_X11_walkWord, lget, lset, popN, cats, rcv, entL, isArr, kC_s, kC_n, st1, st2, st3, st4, st5, st6, st7, st8, st9, st10, st11, st12, st13, st14, st15, st16, st17, st18, st19, st20, st21, st22, st23, st24, st25, st26, st27, st28, st29, st30, st31, st32, st33, st34, st35, st36, st37, st38, st39, st40, st41, st42, st43, st44, st45, st46, st47, st48, st49, st50, st51, st52, st53, st54, st55, st56, st57, st58, st59, st60, st61, st62, st63, st64, st65, st66, st67, st68, st69, st70, st71, st72, st73, st74, st75, st76, st77, st78, st79, st80, st81, st82, st83, st84, st85, st86, st87, st88, st89, st90, st91, R0, R_begins, R_ends, h16, hk, hw1, hw2, hd0, -Int.natCast_add]
    refine ⟨by omega, r_layWay HR (wd_b bL k) (by omega) hro (fun h1 z1 z2 z3 => ?_)⟩
    have HR1 := RN_ch z1 HR
    have R0b := HR1.1
    simp [wp_eq, wpE, mk_X11_walkWord, mg, mc_X11_walkWord, lget, lset, popN, cats, rcv, entL, isArr, kC_s, kC_n, st1, st2, st3, st4, st5, st6, st7, st8, st9, st10, st11, st12, st13, st14, st15, st16, st17, st18, st19, st20, st21, st22, st23, st24, st25, st26, st27, st28, st29, st30, st31, st32, st33, st34, st35, st36, st37, st38, st39, st40, st41, st42, st43, st44, st45, st46, st47, st48, st49, st50, st51, st52, st53, st54, st55, st56, st57, st58, st59, st60, st61, st62, st63, st64, st65, st66, st67, st68, st69, st70, st71, st72, st73, st74, st75, st76, st77, st78, st79, st80, st81, st82, st83, st84, st85, st86, st87, st88, st89, st90, st91, R0b, hd0]
    refine r_walk (by omega) hW hU HR1 (RT_ch z1 (by simp) HT) hh z3 z2 (fun q => by rw [q] at hwl; simp at hwl; omega) (wd_b bL k) (by omega) (fun h2 y1 y2 => ?_)
    have hz := hC hk h2 (chJ_trans (chJ_sub z1 (by simp)) y1) y2
    (repeat' (first | with_reducible assumption | (refine And.intro ?_ ?_) | (with_reducible intro _) | (simp [wp_eq, wpE, mk_X11_walkWord, mg, mc_X11_walkWord, lget, lset, popN, cats, rcv, entL, isArr, kC_s, kC_n, st1, st2, st3, st4, st5, st6, st7, st8, st9, st10, st11, st12, st13, st14, st15, st16, st17, st18, st19, st20, st21, st22, st23, st24, st25, st26, st27, st28, st29, st30, st31, st32, st33, st34, st35, st36, st37, st38, st39, st40, st41, st42, st43, st44, st45, st46, st47, st48, st49, st50, st51, st52, st53, st54, st55, st56, st57, st58, st59, st60, st61, st62, st63, st64, st65, st66, st67, st68, st69, st70, st71, st72, st73, st74, st75, st76, st77, st78, st79, st80, st81, st82, st83, st84, st85, st86, st87, st88, st89, st90, st91]))) <;> (try (first | omega | exact hz))
  · have hz := hF hk
    (repeat' (first | with_reducible assumption | (refine And.intro ?_ ?_) | (with_reducible intro _) | (simp [wp_eq, wpE, mk_X11_walkWord, mg, mc_X11_walkWord, lget, lset, popN, cats, rcv, entL, isArr, kC_s, kC_n, st1, st2, st3, st4, st5, st6, st7, st8, st9, st10, st11, st12, st13, st14, st15, st16, st17, st18, st19, st20, st21, st22, st23, st24, st25, st26, st27, st28, st29, st30, st31, st32, st33, st34, st35, st36, st37, st38, st39, st40, st41, st42, st43, st44, st45, st46, st47, st48, st49, st50, st51, st52, st53, st54, st55, st56, st57, st58, st59, st60, st61, st62, st63, st64, st65, st66, st67, st68, st69, st70, st71, st72, st73, st74, st75, st76, st77, st78, st79, st80, st81, st82, st83, st84, st85, st86, st87, st88, st89, st90, st91, R0, R_begins, R_ends, h16, hk]))) <;> (try (first | omega | exact hz))
