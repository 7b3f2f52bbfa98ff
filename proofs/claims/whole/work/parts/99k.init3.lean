theorem ST_R0 {h0 h : mH} {c k l m : Nat} {ft : Nat → Nat × Nat} {fr : Nat → Nat → Option Nat} {fi : Nat → Nat → Int} (H : ST h0 c h k ft fr fi) : ST h0 c (hsetR h c l (some (c + m))) k ft (uS fr 0 l (some m)) fi := ST_R (i := 0) H
theorem ST_I0 {h0 h : mH} {c k l : Nat} {v : Int} {ft : Nat → Nat × Nat} {fr : Nat → Nat → Option Nat} {fi : Nat → Nat → Int} (H : ST h0 c h k ft fr fi) : ST h0 c (hsetI h c l v) k ft fr (uS fi 0 l v) := ST_I (i := 0) H
theorem ST_t0 {h0 h : mH} {c k : Nat} {ft : Nat → Nat × Nat} {fr : Nat → Nat → Option Nat} {fi : Nat → Nat → Int} (H : ST h0 c h k ft fr fi) (hi : 0 < k) : hty h c = some (ft 0) := ST_t (i := 0) H hi
theorem ST_r0 {h0 h : mH} {c k j : Nat} {ft : Nat → Nat × Nat} {fr : Nat → Nat → Option Nat} {fi : Nat → Nat → Int} (H : ST h0 c h k ft fr fi) (hi : 0 < k) : hvr h c j = (fr 0 j).map (fun m => c + m) := ST_r (i := 0) H hi
theorem i_X10s {G : Nat → Nat} {d c : Nat} {h0 h : mH} {C : mQ} {X : mX} {ft : Nat → Nat × Nat} {fr : Nat → Nat → Option Nat} {fi : Nat → Nat → Int} (hd : 4 ≤ d) (H : ST h0 c h 1 ft fr fi) (ht : ft 0 = (10, 7))
    (hC : ∀ h' ft' fr' fi', ST h0 c h' 27 ft' fr' fi' → (∀ p ∈ cTy, ft' p.1 = p.2) → (∀ q ∈ cRf, fr' q.1 q.2.1 = some q.2.2) → (ft' 5 = (7, 3) ∧ ft' 6 = (24, 48) ∧ ft' 7 = (5, 10) ∧ ft' 8 = (21, 0) ∧ ft' 9 = (25, 12) ∧ ft' 10 = (9, 7) ∧ ft' 11 = (21, 420)) → (fr' 5 0 = some 6 ∧ fr' 6 0 = some 7 ∧ (∀ n, ¬ n = 0 → fr' 6 n = none) ∧ fr' 7 3 = some 8 ∧ fr' 7 4 = some 9 ∧ fr' 10 0 = some 5 ∧ fr' 10 1 = some 11) → (fi' 0 6 = -1 ∧ fi' 5 1 = 1 ∧ fi' 5 2 = 0 ∧ fi' 7 0 = 0 ∧ fi' 7 1 = 0 ∧ fi' 7 2 = 0 ∧ fi' 7 5 = 0 ∧ fi' 7 6 = 7 ∧ fi' 7 7 = 1 ∧ fi' 7 8 = 0 ∧ (∀ j, fi' 1 j = 0) ∧ (∀ j, fi' 12 j = 0) ∧ ∀ j, fi' 19 j = 0) → C none h') :
    callG (wp G) d 69 26 3561 1 [.inr (.inl (some c))] h C X := by
  have t0 := ST_t0 H (by omega)
  rw [ht] at t0
  have s0 := H.1
  refine cg 3 (by omega) (fun d hd => ?_)
  have hd0 : (0 < d) = True := eq_true (by omega)
  have H1 := ST_P (t := 4) (n := 5) H
  simp [wp_eq, wpE, mk_X10_init, mg, mc_X10_init, lget, lset, popN, cats, rcv, entL, isArr, kC_s, kC_n, st1, st2, st3, st4, st5, st6, st7, st8, st9, st10, st11, st12, st13, st14, st15, st16, st17, st18, st19, st20, st21, st22, st23, st24, st25, st26, st27, st28, st29, st30, st31, st32, st33, st34, st35, st36, st37, st38, st39, st40, st41, st42, st43, st44, st45, st46, st47, st48, st49, st50, st51, st52, st53, st54, st55, st56, st57, st58, st59, st60, st61, st62, st63, st64, st65, st66, st67, st68, st69, st70, st71, st72, st73, st74, st75, st76, st77, st78, st79, st80, st81, st82, st83, st84, st85, st86, st87, st88, st89, st90, st91, t0, s0, hd0, hty_P, hsz_P]
  refine i_X4 (k := 2) (i := 1) H1 (by omega) (by simp [uT]) (fun h1 Z1 => ?_)
  simp only [Nat.reduceAdd] at Z1
  have t1 : hty h1 c = some (10, 7) := by rw [ST_t0 Z1 (by omega)]; simp [uT, ht]
  have s1 := Z1.1
  have H2 := ST_P (t := 7) (n := 3) (ST_R0 (l := 0) (m := 1) Z1)
  simp only [Nat.reduceAdd] at H2
  simp [wp_eq, wpE, mk_X10_init, mg, mc_X10_init, lget, lset, popN, cats, rcv, entL, isArr, kC_s, kC_n, st1, st2, st3, st4, st5, st6, st7, st8, st9, st10, st11, st12, st13, st14, st15, st16, st17, st18, st19, st20, st21, st22, st23, st24, st25, st26, st27, st28, st29, st30, st31, st32, st33, st34, st35, st36, st37, st38, st39, st40, st41, st42, st43, st44, st45, st46, st47, st48, st49, st50, st51, st52, st53, st54, st55, st56, st57, st58, st59, st60, st61, st62, st63, st64, st65, st66, st67, st68, st69, st70, st71, st72, st73, st74, st75, st76, st77, st78, st79, st80, st81, st82, st83, st84, st85, st86, st87, st88, st89, st90, st91, t1, s1, hd0, hty_P, hty_R, hsz_P, hsz_R]
  refine i_X7 (k := 6) (i := 5) (by omega) H2 (by omega) (by simp [uT]) (fun h2 Z2 => ?_)
  simp only [Nat.reduceAdd] at Z2
  have t2 : hty h2 c = some (10, 7) := by rw [ST_t0 Z2 (by omega)]; simp [uT, ht]
  have s2 := Z2.1
  have H3 := ST_P (t := 9) (n := 7) (ST_R0 (l := 1) (m := 5) Z2)
  simp only [Nat.reduceAdd] at H3
  simp [wp_eq, wpE, mk_X10_init, mg, mc_X10_init, lget, lset, popN, cats, rcv, entL, isArr, kC_s, kC_n, st1, st2, st3, st4, st5, st6, st7, st8, st9, st10, st11, st12, st13, st14, st15, st16, st17, st18, st19, st20, st21, st22, st23, st24, st25, st26, st27, st28, st29, st30, st31, st32, st33, st34, st35, st36, st37, st38, st39, st40, st41, st42, st43, st44, st45, st46, st47, st48, st49, st50, st51, st52, st53, st54, st55, st56, st57, st58, st59, st60, st61, st62, st63, st64, st65, st66, st67, st68, st69, st70, st71, st72, st73, st74, st75, st76, st77, st78, st79, st80, st81, st82, st83, st84, st85, st86, st87, st88, st89, st90, st91, t2, s2, hd0, hty_P, hty_R, hsz_P, hsz_R, hvr_R, hvr_P]
  refine i_X9 (k := 11) (i := 10) (l := 5) H3 (by omega) (by simp [uT]) (fun h3 Z3 => ?_)
  simp only [Nat.reduceAdd] at Z3
  have t3 : hty h3 c = some (10, 7) := by rw [ST_t0 Z3 (by omega)]; simp [uT, ht]
  have s3 := Z3.1
  have H4 := ST_P (t := 6) (n := 3) (ST_R0 (l := 2) (m := 10) Z3)
  simp only [Nat.reduceAdd] at H4
  simp [wp_eq, wpE, mk_X10_init, mg, mc_X10_init, lget, lset, popN, cats, rcv, entL, isArr, kC_s, kC_n, st1, st2, st3, st4, st5, st6, st7, st8, st9, st10, st11, st12, st13, st14, st15, st16, st17, st18, st19, st20, st21, st22, st23, st24, st25, st26, st27, st28, st29, st30, st31, st32, st33, st34, st35, st36, st37, st38, st39, st40, st41, st42, st43, st44, st45, st46, st47, st48, st49, st50, st51, st52, st53, st54, st55, st56, st57, st58, st59, st60, st61, st62, st63, st64, st65, st66, st67, st68, st69, st70, st71, st72, st73, st74, st75, st76, st77, st78, st79, st80, st81, st82, st83, st84, st85, st86, st87, st88, st89, st90, st91, t3, s3, hd0, hty_P, hty_R, hsz_P, hsz_R]
  refine i_X6 (k := 13) (i := 12) H4 (by omega) (by simp [uT]) (fun h4 Z4 => ?_)
  simp only [Nat.reduceAdd] at Z4
  have t4 : hty h4 c = some (10, 7) := by rw [ST_t0 Z4 (by omega)]; simp [uT, ht]
  have s4 := Z4.1
  have r40 : hvr h4 c 0 = some (c + 1) := by rw [ST_r0 Z4 (by omega)]; simp [uS, uF]
  have r41 : hvr h4 c 1 = some (c + 5) := by rw [ST_r0 Z4 (by omega)]; simp [uS, uF]
  have H5 := ST_P (t := 1) (n := 8) (ST_R0 (l := 3) (m := 12) Z4)
  simp only [Nat.reduceAdd] at H5
  simp [wp_eq, wpE, mk_X10_init, mg, mc_X10_init, lget, lset, popN, cats, rcv, entL, isArr, kC_s, kC_n, st1, st2, st3, st4, st5, st6, st7, st8, st9, st10, st11, st12, st13, st14, st15, st16, st17, st18, st19, st20, st21, st22, st23, st24, st25, st26, st27, st28, st29, st30, st31, st32, st33, st34, st35, st36, st37, st38, st39, st40, st41, st42, st43, st44, st45, st46, st47, st48, st49, st50, st51, st52, st53, st54, st55, st56, st57, st58, st59, st60, st61, st62, st63, st64, st65, st66, st67, st68, st69, st70, st71, st72, st73, st74, st75, st76, st77, st78, st79, st80, st81, st82, st83, st84, st85, st86, st87, st88, st89, st90, st91, t4, s4, r40, hd0, hty_P, hty_R, hsz_P, hsz_R, hvr_R, hvr_P]
  refine i_X1 (k := 15) (i := 14) (l := 1) H5 (by omega) (by simp [uT]) (fun h5 Z5 => ?_)
  simp only [Nat.reduceAdd] at Z5
  have t5 : hty h5 c = some (10, 7) := by rw [ST_t0 Z5 (by omega)]; simp [uT, ht]
  have s5 := Z5.1
  have r50 : hvr h5 c 0 = some (c + 1) := by rw [ST_r0 Z5 (by omega)]; simp [uS, uF]
  have r51 : hvr h5 c 1 = some (c + 5) := by rw [ST_r0 Z5 (by omega)]; simp [uS, uF]
  have r53 : hvr h5 c 3 = some (c + 12) := by rw [ST_r0 Z5 (by omega)]; simp [uS, uF]
  have H6 := ST_P (t := 2) (n := 14) (ST_R0 (l := 4) (m := 14) Z5)
  simp only [Nat.reduceAdd] at H6
  simp [wp_eq, wpE, mk_X10_init, mg, mc_X10_init, lget, lset, popN, cats, rcv, entL, isArr, kC_s, kC_n, st1, st2, st3, st4, st5, st6, st7, st8, st9, st10, st11, st12, st13, st14, st15, st16, st17, st18, st19, st20, st21, st22, st23, st24, st25, st26, st27, st28, st29, st30, st31, st32, st33, st34, st35, st36, st37, st38, st39, st40, st41, st42, st43, st44, st45, st46, st47, st48, st49, st50, st51, st52, st53, st54, st55, st56, st57, st58, st59, st60, st61, st62, st63, st64, st65, st66, st67, st68, st69, st70, st71, st72, st73, st74, st75, st76, st77, st78, st79, st80, st81, st82, st83, st84, st85, st86, st87, st88, st89, st90, st91, t5, s5, r50, r51, r53, hd0, hty_P, hty_R, hsz_P, hsz_R, hvr_R, hvr_P]
  refine i_X2 (k := 20) (i := 19) (t := 5) (l := 1) (e := 14) (p := 12) (by omega) H6 (by omega) (by simp [uT]) (fun h6 Z6 => ?_)
  simp only [Nat.reduceAdd] at Z6
  have t6 : hty h6 c = some (10, 7) := by rw [ST_t0 Z6 (by omega)]; simp [uT, ht]
  have hz := hC _ _ _ _ (ST_I0 (l := 6) (v := -1) (ST_R0 (l := 5) (m := 19) Z6)) (by
    intro p hp
    simp only [cTy, List.mem_cons, List.not_mem_nil, or_false] at hp
    rcases hp with rfl | rfl | rfl | rfl | rfl | rfl | rfl | rfl | rfl | rfl | rfl | rfl | rfl | rfl | rfl | rfl | rfl | rfl | rfl | rfl <;> simp [uT, ht]) (by
    intro q hq
    simp only [cRf, List.mem_cons, List.not_mem_nil, or_false] at hq
    rcases hq with rfl | rfl | rfl | rfl | rfl | rfl | rfl | rfl | rfl | rfl | rfl | rfl | rfl | rfl | rfl | rfl | rfl | rfl | rfl | rfl | rfl | rfl | rfl | rfl | rfl | rfl <;> simp [uS, uF]) (by simp [uT]) (by simp [uS, uF]) (by simp [uS, uF])
  (repeat' (first | with_reducible assumption | (refine And.intro ?_ ?_) | (with_reducible intro _) | (simp [wp_eq, wpE, mk_X10_init, mg, mc_X10_init, lget, lset, popN, cats, rcv, entL, isArr, kC_s, kC_n, st1, st2, st3, st4, st5, st6, st7, st8, st9, st10, st11, st12, st13, st14, st15, st16, st17, st18, st19, st20, st21, st22, st23, st24, st25, st26, st27, st28, st29, st30, st31, st32, st33, st34, st35, st36, st37, st38, st39, st40, st41, st42, st43, st44, st45, st46, st47, st48, st49, st50, st51, st52, st53, st54, st55, st56, st57, st58, st59, st60, st61, st62, st63, st64, st65, st66, st67, st68, st69, st70, st71, st72, st73, st74, st75, st76, st77, st78, st79, st80, st81, st82, st83, st84, st85, st86, st87, st88, st89, st90, st91, t6, hty_R, hty_I]))) <;> (try (first | omega | exact hz))
