theorem ST_cg {h0 h : mH} {c k : Nat} {ft : Nat → Nat × Nat} {fr : Nat → Nat → Option Nat} {fi fi' : Nat → Nat → Int} (H : ST h0 c h k ft fr fi) (he : ∀ a j, fi a j = fi' a j) : ST h0 c h k ft fr fi' := by
  have : fi = fi' := funext fun a => funext fun j => he a j
  rw [← this]; exact H
theorem X11_loop {G : Nat → Nat} {d r : Nat} {h0 : mH} {C : mQ} {X : mX} {ft : Nat → Nat × Nat} {fr : Nat → Nat → Option Nat} {fi : Nat → Nat → Int} (ht0 : ft 0 = (11, 54)) (ht1 : ft 1 = (20, 48)) (hr : fr 0 1 = some 1) : ∀ (m i : Nat) (h : mH), i + m = 48 → ST h0 r h 32 ft fr (fun a j => if a = 1 ∧ j < i then -1 else fi a j) →
    (∀ h' x1, ST h0 r h' 32 ft fr (fun a j => if a = 1 ∧ j < 48 then -1 else fi a j) → wp G d 90 288 [some (.inr (.inl (some r))), x1] [] h' 0 0 C X) →
    wp G d 90 100269 [some (.inr (.inl (some r))), some (.inl (i : Int))] [] h 0 0 C X := by
  intro m
  induction m with
  | zero =>
    intro i h hi H hC
    have hi48 : i = 48 := by omega
    subst hi48
    have hz := fun x1 => hC h x1 H
    rw [wp_hd]
    (repeat' (first | with_reducible assumption | (refine And.intro ?_ ?_) | (with_reducible intro _) | (simp [wp_ne 288, wpE, mk_X11_init, mg, mc_X11_init, lget, lset, popN, cats, rcv, entL, isArr, kC_s, kC_n, st1, st2, st3, st4, st5, st6, st7, st8, st9, st10, st11, st12, st13, st14, st15, st16, st17, st18, st19, st20, st21, st22, st23, st24, st25, st26, st27, st28, st29, st30, st31, st32, st33, st34, st35, st36, st37, st38, st39, st40, st41, st42, st43, st44, st45, st46, st47, st48, st49, st50, st51, st52, st53, st54, st55, st56, st57, st58, st59, st60, st61, st62, st63, st64, st65, st66, st67, st68, st69, st70, st71, st72, st73, st74, st75, st76, st77, st78, st79, st80, st81, st82, st83, st84, st85, st86, st87, st88, st89, st90, st91]))) <;> (try (first | omega | exact hz))
    all_goals exact hz _
  | succ m ih =>
    intro i h hi H hC
    have t0 := ST_t0 H (by omega)
    rw [ht0] at t0
    have t1 := ST_t (i := 1) H (by omega)
    rw [ht1] at t1
    have r1 : hvr h r 1 = some (r + 1) := by rw [ST_r0 H (by omega), hr]; rfl
    have hz := ih (i + 1) _ (by omega) (ST_cg (ST_I (i := 1) (l := i) (v := -1) H) (fun a j => by
      simp only [uS]
      by_cases q : a = 1 ∧ j = i
      · rw [if_pos q, if_pos (by omega)]
      · rw [if_neg q]
        by_cases q2 : a = 1 ∧ j < i
        · rw [if_pos q2, if_pos (by omega)]
        · rw [if_neg q2, if_neg (by omega)])) hC
    rw [wp_hd]
    (repeat' (first | with_reducible assumption | (refine And.intro ?_ ?_) | (with_reducible intro _) | (simp [wp_ne 288, wpE, mk_X11_init, mg, mc_X11_init, lget, lset, popN, cats, rcv, entL, isArr, kC_s, kC_n, st1, st2, st3, st4, st5, st6, st7, st8, st9, st10, st11, st12, st13, st14, st15, st16, st17, st18, st19, st20, st21, st22, st23, st24, st25, st26, st27, st28, st29, st30, st31, st32, st33, st34, st35, st36, st37, st38, st39, st40, st41, st42, st43, st44, st45, st46, st47, st48, st49, st50, st51, st52, st53, st54, st55, st56, st57, st58, st59, st60, st61, st62, st63, st64, st65, st66, st67, st68, st69, st70, st71, st72, st73, st74, st75, st76, st77, st78, st79, st80, st81, st82, st83, st84, st85, st86, st87, st88, st89, st90, st91, t0, t1, r1, inR, show (i : Int) < 48 by omega, show ¬ (48 : Int) ≤ (i : Int) by omega]))) <;> (try (first | omega | exact hz))
theorem X11_loop0 {G : Nat → Nat} {d r : Nat} {h0 h : mH} {C : mQ} {X : mX} {ft : Nat → Nat × Nat} {fr : Nat → Nat → Option Nat} {fi F : Nat → Nat → Int} (ht0 : ft 0 = (11, 54)) (ht1 : ft 1 = (20, 48)) (hr : fr 0 1 = some 1) (H : ST h0 r h 32 ft fr fi) (hF : ∀ a j, fi a j = F a j) (hC : ∀ h' x1, ST h0 r h' 32 ft fr (fun a j => if a = 1 ∧ j < 48 then -1 else F a j) → wp G d 90 288 [some (.inr (.inl (some r))), x1] [] h' 0 0 C X) : wp G d 90 100269 [some (.inr (.inl (some r))), some (.inl 0)] [] h 0 0 C X :=
  X11_loop (fi := F) ht0 ht1 hr 48 0 h (by omega) (ST_cg H (fun a j => by rw [if_neg (by omega)]; exact hF a j)) hC
theorem i_X11s {G : Nat → Nat} {d r : Nat} {h0 h : mH} {C : mQ} {X : mX} {ft : Nat → Nat × Nat} {fr : Nat → Nat → Option Nat} {fi : Nat → Nat → Int} (H : ST h0 r h 1 ft fr fi) (ht : ft 0 = (11, 54)) (hf : ∀ j, fi 0 j = 0)
    (hC : ∀ h' ft' fr' fi', ST h0 r h' 32 ft' fr' fi' → (ft' 0 = (11, 54) ∧ ∀ p ∈ rTab, fr' 0 p.1 = some p.2.1 ∧ ft' p.2.1 = p.2.2) → (∀ a j, fi' a j = if a = 0 then (if j = 22 then -1 else 0) else if a = 1 then (if j = 0 then 0 else if j < 48 then -1 else 0) else if a = 4 ∧ j = 0 then 1 else if a = 5 ∧ j = 0 then 7 else if a < 32 then 0 else fi a j) → C none h') :
    callG (wp G) d 90 31 17956 2 [.inr (.inl (some r))] h C X := by
  refine ⟨C, fun _ _ => False, ?_, fun _ _ q => q, fun _ _ q => q.elim⟩
  have t0 := ST_t0 H (by omega)
  rw [ht] at t0
  have s0 := H.1
  have Z0 := H
  simp [wp_ne 12, wpE, mk_X11_init, mg, mc_X11_init, lget, lset, popN, cats, rcv, entL, isArr, kC_s, kC_n, st1, st2, st3, st4, st5, st6, st7, st8, st9, st10, st11, st12, st13, st14, st15, st16, st17, st18, st19, st20, st21, st22, st23, st24, st25, st26, st27, st28, st29, st30, st31, st32, st33, st34, st35, st36, st37, st38, st39, st40, st41, st42, st43, st44, st45, st46, st47, st48, st49, st50, st51, st52, st53, st54, st55, st56, st57, st58, st59, st60, st61, st62, st63, st64, st65, st66, st67, st68, st69, st70, st71, st72, st73, st74, st75, st76, st77, st78, st79, st80, st81, st82, st83, st84, st85, st86, st87, st88, st89, st90, st91, t0, s0, hty_P, hsz_P]
  have Z1 := ST_R0 (l := 1) (m := 1) (ST_P (t := 20) (n := 48) Z0)
  simp only [Nat.reduceAdd] at Z1
  have t1 : hty (hsetR (hpush h 20 48) r 1 (some (r + 1))) r = some (11, 54) := by rw [ST_t0 Z1 (by omega)]; simp [uT, ht]
  have s1 := Z1.1
  generalize hsetR (hpush h 20 48) r 1 (some (r + 1)) = h1 at *
  simp [wp_ne 20, wpE, mk_X11_init, mg, mc_X11_init, lget, lset, popN, cats, rcv, entL, isArr, kC_s, kC_n, st1, st2, st3, st4, st5, st6, st7, st8, st9, st10, st11, st12, st13, st14, st15, st16, st17, st18, st19, st20, st21, st22, st23, st24, st25, st26, st27, st28, st29, st30, st31, st32, st33, st34, st35, st36, st37, st38, st39, st40, st41, st42, st43, st44, st45, st46, st47, st48, st49, st50, st51, st52, st53, st54, st55, st56, st57, st58, st59, st60, st61, st62, st63, st64, st65, st66, st67, st68, st69, st70, st71, st72, st73, st74, st75, st76, st77, st78, st79, st80, st81, st82, st83, st84, st85, st86, st87, st88, st89, st90, st91, t1, s1, hty_P, hsz_P]
  have Z2 := ST_R0 (l := 2) (m := 2) (ST_P (t := 20) (n := 48) Z1)
  simp only [Nat.reduceAdd] at Z2
  have t2 : hty (hsetR (hpush h1 20 48) r 2 (some (r + 2))) r = some (11, 54) := by rw [ST_t0 Z2 (by omega)]; simp [uT, ht]
  have s2 := Z2.1
  generalize hsetR (hpush h1 20 48) r 2 (some (r + 2)) = h2 at *
  simp [wp_ne 28, wpE, mk_X11_init, mg, mc_X11_init, lget, lset, popN, cats, rcv, entL, isArr, kC_s, kC_n, st1, st2, st3, st4, st5, st6, st7, st8, st9, st10, st11, st12, st13, st14, st15, st16, st17, st18, st19, st20, st21, st22, st23, st24, st25, st26, st27, st28, st29, st30, st31, st32, st33, st34, st35, st36, st37, st38, st39, st40, st41, st42, st43, st44, st45, st46, st47, st48, st49, st50, st51, st52, st53, st54, st55, st56, st57, st58, st59, st60, st61, st62, st63, st64, st65, st66, st67, st68, st69, st70, st71, st72, st73, st74, st75, st76, st77, st78, st79, st80, st81, st82, st83, st84, st85, st86, st87, st88, st89, st90, st91, t2, s2, hty_P, hsz_P]
  have Z3 := ST_R0 (l := 3) (m := 3) (ST_P (t := 20) (n := 48) Z2)
  simp only [Nat.reduceAdd] at Z3
  have t3 : hty (hsetR (hpush h2 20 48) r 3 (some (r + 3))) r = some (11, 54) := by rw [ST_t0 Z3 (by omega)]; simp [uT, ht]
  have s3 := Z3.1
  generalize hsetR (hpush h2 20 48) r 3 (some (r + 3)) = h3 at *
  simp [wp_ne 36, wpE, mk_X11_init, mg, mc_X11_init, lget, lset, popN, cats, rcv, entL, isArr, kC_s, kC_n, st1, st2, st3, st4, st5, st6, st7, st8, st9, st10, st11, st12, st13, st14, st15, st16, st17, st18, st19, st20, st21, st22, st23, st24, st25, st26, st27, st28, st29, st30, st31, st32, st33, st34, st35, st36, st37, st38, st39, st40, st41, st42, st43, st44, st45, st46, st47, st48, st49, st50, st51, st52, st53, st54, st55, st56, st57, st58, st59, st60, st61, st62, st63, st64, st65, st66, st67, st68, st69, st70, st71, st72, st73, st74, st75, st76, st77, st78, st79, st80, st81, st82, st83, st84, st85, st86, st87, st88, st89, st90, st91, t3, s3, hty_P, hsz_P]
  have Z4 := ST_R0 (l := 4) (m := 4) (ST_P (t := 20) (n := 48) Z3)
  simp only [Nat.reduceAdd] at Z4
  have t4 : hty (hsetR (hpush h3 20 48) r 4 (some (r + 4))) r = some (11, 54) := by rw [ST_t0 Z4 (by omega)]; simp [uT, ht]
  have s4 := Z4.1
  generalize hsetR (hpush h3 20 48) r 4 (some (r + 4)) = h4 at *
  simp [wp_ne 44, wpE, mk_X11_init, mg, mc_X11_init, lget, lset, popN, cats, rcv, entL, isArr, kC_s, kC_n, st1, st2, st3, st4, st5, st6, st7, st8, st9, st10, st11, st12, st13, st14, st15, st16, st17, st18, st19, st20, st21, st22, st23, st24, st25, st26, st27, st28, st29, st30, st31, st32, st33, st34, st35, st36, st37, st38, st39, st40, st41, st42, st43, st44, st45, st46, st47, st48, st49, st50, st51, st52, st53, st54, st55, st56, st57, st58, st59, st60, st61, st62, st63, st64, st65, st66, st67, st68, st69, st70, st71, st72, st73, st74, st75, st76, st77, st78, st79, st80, st81, st82, st83, st84, st85, st86, st87, st88, st89, st90, st91, t4, s4, hty_P, hsz_P]
  have Z5 := ST_R0 (l := 5) (m := 5) (ST_P (t := 20) (n := 48) Z4)
  simp only [Nat.reduceAdd] at Z5
  have t5 : hty (hsetR (hpush h4 20 48) r 5 (some (r + 5))) r = some (11, 54) := by rw [ST_t0 Z5 (by omega)]; simp [uT, ht]
  have s5 := Z5.1
  generalize hsetR (hpush h4 20 48) r 5 (some (r + 5)) = h5 at *
  simp [wp_ne 52, wpE, mk_X11_init, mg, mc_X11_init, lget, lset, popN, cats, rcv, entL, isArr, kC_s, kC_n, st1, st2, st3, st4, st5, st6, st7, st8, st9, st10, st11, st12, st13, st14, st15, st16, st17, st18, st19, st20, st21, st22, st23, st24, st25, st26, st27, st28, st29, st30, st31, st32, st33, st34, st35, st36, st37, st38, st39, st40, st41, st42, st43, st44, st45, st46, st47, st48, st49, st50, st51, st52, st53, st54, st55, st56, st57, st58, st59, st60, st61, st62, st63, st64, st65, st66, st67, st68, st69, st70, st71, st72, st73, st74, st75, st76, st77, st78, st79, st80, st81, st82, st83, st84, st85, st86, st87, st88, st89, st90, st91, t5, s5, hty_P, hsz_P]
  have Z6 := ST_R0 (l := 6) (m := 6) (ST_P (t := 20) (n := 48) Z5)
  simp only [Nat.reduceAdd] at Z6
  have t6 : hty (hsetR (hpush h5 20 48) r 6 (some (r + 6))) r = some (11, 54) := by rw [ST_t0 Z6 (by omega)]; simp [uT, ht]
  have s6 := Z6.1
  generalize hsetR (hpush h5 20 48) r 6 (some (r + 6)) = h6 at *
  simp [wp_ne 60, wpE, mk_X11_init, mg, mc_X11_init, lget, lset, popN, cats, rcv, entL, isArr, kC_s, kC_n, st1, st2, st3, st4, st5, st6, st7, st8, st9, st10, st11, st12, st13, st14, st15, st16, st17, st18, st19, st20, st21, st22, st23, st24, st25, st26, st27, st28, st29, st30, st31, st32, st33, st34, st35, st36, st37, st38, st39, st40, st41, st42, st43, st44, st45, st46, st47, st48, st49, st50, st51, st52, st53, st54, st55, st56, st57, st58, st59, st60, st61, st62, st63, st64, st65, st66, st67, st68, st69, st70, st71, st72, st73, st74, st75, st76, st77, st78, st79, st80, st81, st82, st83, st84, st85, st86, st87, st88, st89, st90, st91, t6, s6, hty_P, hsz_P]
  have Z7 := ST_R0 (l := 7) (m := 7) (ST_P (t := 20) (n := 48) Z6)
  simp only [Nat.reduceAdd] at Z7
  have t7 : hty (hsetR (hpush h6 20 48) r 7 (some (r + 7))) r = some (11, 54) := by rw [ST_t0 Z7 (by omega)]; simp [uT, ht]
  have s7 := Z7.1
  generalize hsetR (hpush h6 20 48) r 7 (some (r + 7)) = h7 at *
  simp [wp_ne 69, wpE, mk_X11_init, mg, mc_X11_init, lget, lset, popN, cats, rcv, entL, isArr, kC_s, kC_n, st1, st2, st3, st4, st5, st6, st7, st8, st9, st10, st11, st12, st13, st14, st15, st16, st17, st18, st19, st20, st21, st22, st23, st24, st25, st26, st27, st28, st29, st30, st31, st32, st33, st34, st35, st36, st37, st38, st39, st40, st41, st42, st43, st44, st45, st46, st47, st48, st49, st50, st51, st52, st53, st54, st55, st56, st57, st58, st59, st60, st61, st62, st63, st64, st65, st66, st67, st68, st69, st70, st71, st72, st73, st74, st75, st76, st77, st78, st79, st80, st81, st82, st83, st84, st85, st86, st87, st88, st89, st90, st91, t7, s7, hty_P, hsz_P]
  have Z8 := ST_R0 (l := 8) (m := 8) (ST_P (t := 21) (n := 1920) Z7)
  simp only [Nat.reduceAdd] at Z8
  have t8 : hty (hsetR (hpush h7 21 1920) r 8 (some (r + 8))) r = some (11, 54) := by rw [ST_t0 Z8 (by omega)]; simp [uT, ht]
  have s8 := Z8.1
  generalize hsetR (hpush h7 21 1920) r 8 (some (r + 8)) = h8 at *
  simp [wp_ne 77, wpE, mk_X11_init, mg, mc_X11_init, lget, lset, popN, cats, rcv, entL, isArr, kC_s, kC_n, st1, st2, st3, st4, st5, st6, st7, st8, st9, st10, st11, st12, st13, st14, st15, st16, st17, st18, st19, st20, st21, st22, st23, st24, st25, st26, st27, st28, st29, st30, st31, st32, st33, st34, st35, st36, st37, st38, st39, st40, st41, st42, st43, st44, st45, st46, st47, st48, st49, st50, st51, st52, st53, st54, st55, st56, st57, st58, st59, st60, st61, st62, st63, st64, st65, st66, st67, st68, st69, st70, st71, st72, st73, st74, st75, st76, st77, st78, st79, st80, st81, st82, st83, st84, st85, st86, st87, st88, st89, st90, st91, t8, s8, hty_P, hsz_P]
  have Z9 := ST_R0 (l := 9) (m := 9) (ST_P (t := 20) (n := 48) Z8)
  simp only [Nat.reduceAdd] at Z9
  have t9 : hty (hsetR (hpush h8 20 48) r 9 (some (r + 9))) r = some (11, 54) := by rw [ST_t0 Z9 (by omega)]; simp [uT, ht]
  have s9 := Z9.1
  generalize hsetR (hpush h8 20 48) r 9 (some (r + 9)) = h9 at *
  simp [wp_ne 86, wpE, mk_X11_init, mg, mc_X11_init, lget, lset, popN, cats, rcv, entL, isArr, kC_s, kC_n, st1, st2, st3, st4, st5, st6, st7, st8, st9, st10, st11, st12, st13, st14, st15, st16, st17, st18, st19, st20, st21, st22, st23, st24, st25, st26, st27, st28, st29, st30, st31, st32, st33, st34, st35, st36, st37, st38, st39, st40, st41, st42, st43, st44, st45, st46, st47, st48, st49, st50, st51, st52, st53, st54, st55, st56, st57, st58, st59, st60, st61, st62, st63, st64, st65, st66, st67, st68, st69, st70, st71, st72, st73, st74, st75, st76, st77, st78, st79, st80, st81, st82, st83, st84, st85, st86, st87, st88, st89, st90, st91, t9, s9, hty_P, hsz_P]
  have Z10 := ST_R0 (l := 10) (m := 10) (ST_P (t := 20) (n := 576) Z9)
  simp only [Nat.reduceAdd] at Z10
  have t10 : hty (hsetR (hpush h9 20 576) r 10 (some (r + 10))) r = some (11, 54) := by rw [ST_t0 Z10 (by omega)]; simp [uT, ht]
  have s10 := Z10.1
  generalize hsetR (hpush h9 20 576) r 10 (some (r + 10)) = h10 at *
  simp [wp_ne 95, wpE, mk_X11_init, mg, mc_X11_init, lget, lset, popN, cats, rcv, entL, isArr, kC_s, kC_n, st1, st2, st3, st4, st5, st6, st7, st8, st9, st10, st11, st12, st13, st14, st15, st16, st17, st18, st19, st20, st21, st22, st23, st24, st25, st26, st27, st28, st29, st30, st31, st32, st33, st34, st35, st36, st37, st38, st39, st40, st41, st42, st43, st44, st45, st46, st47, st48, st49, st50, st51, st52, st53, st54, st55, st56, st57, st58, st59, st60, st61, st62, st63, st64, st65, st66, st67, st68, st69, st70, st71, st72, st73, st74, st75, st76, st77, st78, st79, st80, st81, st82, st83, st84, st85, st86, st87, st88, st89, st90, st91, t10, s10, hty_P, hsz_P]
  have Z11 := ST_R0 (l := 11) (m := 11) (ST_P (t := 20) (n := 576) Z10)
  simp only [Nat.reduceAdd] at Z11
  have t11 : hty (hsetR (hpush h10 20 576) r 11 (some (r + 11))) r = some (11, 54) := by rw [ST_t0 Z11 (by omega)]; simp [uT, ht]
  have s11 := Z11.1
  generalize hsetR (hpush h10 20 576) r 11 (some (r + 11)) = h11 at *
  simp [wp_ne 104, wpE, mk_X11_init, mg, mc_X11_init, lget, lset, popN, cats, rcv, entL, isArr, kC_s, kC_n, st1, st2, st3, st4, st5, st6, st7, st8, st9, st10, st11, st12, st13, st14, st15, st16, st17, st18, st19, st20, st21, st22, st23, st24, st25, st26, st27, st28, st29, st30, st31, st32, st33, st34, st35, st36, st37, st38, st39, st40, st41, st42, st43, st44, st45, st46, st47, st48, st49, st50, st51, st52, st53, st54, st55, st56, st57, st58, st59, st60, st61, st62, st63, st64, st65, st66, st67, st68, st69, st70, st71, st72, st73, st74, st75, st76, st77, st78, st79, st80, st81, st82, st83, st84, st85, st86, st87, st88, st89, st90, st91, t11, s11, hty_P, hsz_P]
  have Z12 := ST_R0 (l := 12) (m := 12) (ST_P (t := 21) (n := 8064) Z11)
  simp only [Nat.reduceAdd] at Z12
  have t12 : hty (hsetR (hpush h11 21 8064) r 12 (some (r + 12))) r = some (11, 54) := by rw [ST_t0 Z12 (by omega)]; simp [uT, ht]
  have s12 := Z12.1
  generalize hsetR (hpush h11 21 8064) r 12 (some (r + 12)) = h12 at *
  simp [wp_ne 112, wpE, mk_X11_init, mg, mc_X11_init, lget, lset, popN, cats, rcv, entL, isArr, kC_s, kC_n, st1, st2, st3, st4, st5, st6, st7, st8, st9, st10, st11, st12, st13, st14, st15, st16, st17, st18, st19, st20, st21, st22, st23, st24, st25, st26, st27, st28, st29, st30, st31, st32, st33, st34, st35, st36, st37, st38, st39, st40, st41, st42, st43, st44, st45, st46, st47, st48, st49, st50, st51, st52, st53, st54, st55, st56, st57, st58, st59, st60, st61, st62, st63, st64, st65, st66, st67, st68, st69, st70, st71, st72, st73, st74, st75, st76, st77, st78, st79, st80, st81, st82, st83, st84, st85, st86, st87, st88, st89, st90, st91, t12, s12, hty_P, hsz_P]
  have Z13 := ST_R0 (l := 14) (m := 13) (ST_P (t := 21) (n := 100) Z12)
  simp only [Nat.reduceAdd] at Z13
  have t13 : hty (hsetR (hpush h12 21 100) r 14 (some (r + 13))) r = some (11, 54) := by rw [ST_t0 Z13 (by omega)]; simp [uT, ht]
  have s13 := Z13.1
  generalize hsetR (hpush h12 21 100) r 14 (some (r + 13)) = h13 at *
  simp [wp_ne 120, wpE, mk_X11_init, mg, mc_X11_init, lget, lset, popN, cats, rcv, entL, isArr, kC_s, kC_n, st1, st2, st3, st4, st5, st6, st7, st8, st9, st10, st11, st12, st13, st14, st15, st16, st17, st18, st19, st20, st21, st22, st23, st24, st25, st26, st27, st28, st29, st30, st31, st32, st33, st34, st35, st36, st37, st38, st39, st40, st41, st42, st43, st44, st45, st46, st47, st48, st49, st50, st51, st52, st53, st54, st55, st56, st57, st58, st59, st60, st61, st62, st63, st64, st65, st66, st67, st68, st69, st70, st71, st72, st73, st74, st75, st76, st77, st78, st79, st80, st81, st82, st83, st84, st85, st86, st87, st88, st89, st90, st91, t13, s13, hty_P, hsz_P]
  have Z14 := ST_R0 (l := 17) (m := 14) (ST_P (t := 20) (n := 52) Z13)
  simp only [Nat.reduceAdd] at Z14
  have t14 : hty (hsetR (hpush h13 20 52) r 17 (some (r + 14))) r = some (11, 54) := by rw [ST_t0 Z14 (by omega)]; simp [uT, ht]
  have s14 := Z14.1
  generalize hsetR (hpush h13 20 52) r 17 (some (r + 14)) = h14 at *
  simp [wp_ne 128, wpE, mk_X11_init, mg, mc_X11_init, lget, lset, popN, cats, rcv, entL, isArr, kC_s, kC_n, st1, st2, st3, st4, st5, st6, st7, st8, st9, st10, st11, st12, st13, st14, st15, st16, st17, st18, st19, st20, st21, st22, st23, st24, st25, st26, st27, st28, st29, st30, st31, st32, st33, st34, st35, st36, st37, st38, st39, st40, st41, st42, st43, st44, st45, st46, st47, st48, st49, st50, st51, st52, st53, st54, st55, st56, st57, st58, st59, st60, st61, st62, st63, st64, st65, st66, st67, st68, st69, st70, st71, st72, st73, st74, st75, st76, st77, st78, st79, st80, st81, st82, st83, st84, st85, st86, st87, st88, st89, st90, st91, t14, s14, hty_P, hsz_P]
  have Z15 := ST_R0 (l := 18) (m := 15) (ST_P (t := 20) (n := 52) Z14)
  simp only [Nat.reduceAdd] at Z15
  have t15 : hty (hsetR (hpush h14 20 52) r 18 (some (r + 15))) r = some (11, 54) := by rw [ST_t0 Z15 (by omega)]; simp [uT, ht]
  have s15 := Z15.1
  generalize hsetR (hpush h14 20 52) r 18 (some (r + 15)) = h15 at *
  simp [wp_ne 137, wpE, mk_X11_init, mg, mc_X11_init, lget, lset, popN, cats, rcv, entL, isArr, kC_s, kC_n, st1, st2, st3, st4, st5, st6, st7, st8, st9, st10, st11, st12, st13, st14, st15, st16, st17, st18, st19, st20, st21, st22, st23, st24, st25, st26, st27, st28, st29, st30, st31, st32, st33, st34, st35, st36, st37, st38, st39, st40, st41, st42, st43, st44, st45, st46, st47, st48, st49, st50, st51, st52, st53, st54, st55, st56, st57, st58, st59, st60, st61, st62, st63, st64, st65, st66, st67, st68, st69, st70, st71, st72, st73, st74, st75, st76, st77, st78, st79, st80, st81, st82, st83, st84, st85, st86, st87, st88, st89, st90, st91, t15, s15, hty_P, hsz_P]
  have Z16 := ST_R0 (l := 19) (m := 16) (ST_P (t := 21) (n := 1500) Z15)
  simp only [Nat.reduceAdd] at Z16
  have t16 : hty (hsetR (hpush h15 21 1500) r 19 (some (r + 16))) r = some (11, 54) := by rw [ST_t0 Z16 (by omega)]; simp [uT, ht]
  have s16 := Z16.1
  generalize hsetR (hpush h15 21 1500) r 19 (some (r + 16)) = h16 at *
  simp [wp_ne 142, wpE, mk_X11_init, mg, mc_X11_init, lget, lset, popN, cats, rcv, entL, isArr, kC_s, kC_n, st1, st2, st3, st4, st5, st6, st7, st8, st9, st10, st11, st12, st13, st14, st15, st16, st17, st18, st19, st20, st21, st22, st23, st24, st25, st26, st27, st28, st29, st30, st31, st32, st33, st34, st35, st36, st37, st38, st39, st40, st41, st42, st43, st44, st45, st46, st47, st48, st49, st50, st51, st52, st53, st54, st55, st56, st57, st58, st59, st60, st61, st62, st63, st64, st65, st66, st67, st68, st69, st70, st71, st72, st73, st74, st75, st76, st77, st78, st79, st80, st81, st82, st83, st84, st85, st86, st87, st88, st89, st90, st91, t16]
  have Z17 := ST_I0 (l := 22) (v := -1) Z16
  have t17 : hty (hsetI h16 r 22 (-1)) r = some (11, 54) := t16
  have s17 : hsz (hsetI h16 r 22 (-1)) = r + 17 := s16
  generalize hsetI h16 r 22 (-1) = h17 at *
  simp [wp_ne 151, wpE, mk_X11_init, mg, mc_X11_init, lget, lset, popN, cats, rcv, entL, isArr, kC_s, kC_n, st1, st2, st3, st4, st5, st6, st7, st8, st9, st10, st11, st12, st13, st14, st15, st16, st17, st18, st19, st20, st21, st22, st23, st24, st25, st26, st27, st28, st29, st30, st31, st32, st33, st34, st35, st36, st37, st38, st39, st40, st41, st42, st43, st44, st45, st46, st47, st48, st49, st50, st51, st52, st53, st54, st55, st56, st57, st58, st59, st60, st61, st62, st63, st64, st65, st66, st67, st68, st69, st70, st71, st72, st73, st74, st75, st76, st77, st78, st79, st80, st81, st82, st83, st84, st85, st86, st87, st88, st89, st90, st91, t17, s17, hty_P, hsz_P]
  have Z18 := ST_R0 (l := 23) (m := 17) (ST_P (t := 21) (n := 1000) Z17)
  simp only [Nat.reduceAdd] at Z18
  have t18 : hty (hsetR (hpush h17 21 1000) r 23 (some (r + 17))) r = some (11, 54) := by rw [ST_t0 Z18 (by omega)]; simp [uT, ht]
  have s18 := Z18.1
  generalize hsetR (hpush h17 21 1000) r 23 (some (r + 17)) = h18 at *
  simp [wp_ne 160, wpE, mk_X11_init, mg, mc_X11_init, lget, lset, popN, cats, rcv, entL, isArr, kC_s, kC_n, st1, st2, st3, st4, st5, st6, st7, st8, st9, st10, st11, st12, st13, st14, st15, st16, st17, st18, st19, st20, st21, st22, st23, st24, st25, st26, st27, st28, st29, st30, st31, st32, st33, st34, st35, st36, st37, st38, st39, st40, st41, st42, st43, st44, st45, st46, st47, st48, st49, st50, st51, st52, st53, st54, st55, st56, st57, st58, st59, st60, st61, st62, st63, st64, st65, st66, st67, st68, st69, st70, st71, st72, st73, st74, st75, st76, st77, st78, st79, st80, st81, st82, st83, st84, st85, st86, st87, st88, st89, st90, st91, t18, s18, hty_P, hsz_P]
  have Z19 := ST_R0 (l := 24) (m := 18) (ST_P (t := 21) (n := 1000) Z18)
  simp only [Nat.reduceAdd] at Z19
  have t19 : hty (hsetR (hpush h18 21 1000) r 24 (some (r + 18))) r = some (11, 54) := by rw [ST_t0 Z19 (by omega)]; simp [uT, ht]
  have s19 := Z19.1
  generalize hsetR (hpush h18 21 1000) r 24 (some (r + 18)) = h19 at *
  simp [wp_ne 168, wpE, mk_X11_init, mg, mc_X11_init, lget, lset, popN, cats, rcv, entL, isArr, kC_s, kC_n, st1, st2, st3, st4, st5, st6, st7, st8, st9, st10, st11, st12, st13, st14, st15, st16, st17, st18, st19, st20, st21, st22, st23, st24, st25, st26, st27, st28, st29, st30, st31, st32, st33, st34, st35, st36, st37, st38, st39, st40, st41, st42, st43, st44, st45, st46, st47, st48, st49, st50, st51, st52, st53, st54, st55, st56, st57, st58, st59, st60, st61, st62, st63, st64, st65, st66, st67, st68, st69, st70, st71, st72, st73, st74, st75, st76, st77, st78, st79, st80, st81, st82, st83, st84, st85, st86, st87, st88, st89, st90, st91, t19, s19, hty_P, hsz_P]
  have Z20 := ST_R0 (l := 28) (m := 19) (ST_P (t := 20) (n := 60) Z19)
  simp only [Nat.reduceAdd] at Z20
  have t20 : hty (hsetR (hpush h19 20 60) r 28 (some (r + 19))) r = some (11, 54) := by rw [ST_t0 Z20 (by omega)]; simp [uT, ht]
  have s20 := Z20.1
  generalize hsetR (hpush h19 20 60) r 28 (some (r + 19)) = h20 at *
  simp [wp_ne 176, wpE, mk_X11_init, mg, mc_X11_init, lget, lset, popN, cats, rcv, entL, isArr, kC_s, kC_n, st1, st2, st3, st4, st5, st6, st7, st8, st9, st10, st11, st12, st13, st14, st15, st16, st17, st18, st19, st20, st21, st22, st23, st24, st25, st26, st27, st28, st29, st30, st31, st32, st33, st34, st35, st36, st37, st38, st39, st40, st41, st42, st43, st44, st45, st46, st47, st48, st49, st50, st51, st52, st53, st54, st55, st56, st57, st58, st59, st60, st61, st62, st63, st64, st65, st66, st67, st68, st69, st70, st71, st72, st73, st74, st75, st76, st77, st78, st79, st80, st81, st82, st83, st84, st85, st86, st87, st88, st89, st90, st91, t20, s20, hty_P, hsz_P]
  have Z21 := ST_R0 (l := 29) (m := 20) (ST_P (t := 20) (n := 60) Z20)
  simp only [Nat.reduceAdd] at Z21
  have t21 : hty (hsetR (hpush h20 20 60) r 29 (some (r + 20))) r = some (11, 54) := by rw [ST_t0 Z21 (by omega)]; simp [uT, ht]
  have s21 := Z21.1
  generalize hsetR (hpush h20 20 60) r 29 (some (r + 20)) = h21 at *
  simp [wp_ne 184, wpE, mk_X11_init, mg, mc_X11_init, lget, lset, popN, cats, rcv, entL, isArr, kC_s, kC_n, st1, st2, st3, st4, st5, st6, st7, st8, st9, st10, st11, st12, st13, st14, st15, st16, st17, st18, st19, st20, st21, st22, st23, st24, st25, st26, st27, st28, st29, st30, st31, st32, st33, st34, st35, st36, st37, st38, st39, st40, st41, st42, st43, st44, st45, st46, st47, st48, st49, st50, st51, st52, st53, st54, st55, st56, st57, st58, st59, st60, st61, st62, st63, st64, st65, st66, st67, st68, st69, st70, st71, st72, st73, st74, st75, st76, st77, st78, st79, st80, st81, st82, st83, st84, st85, st86, st87, st88, st89, st90, st91, t21, s21, hty_P, hsz_P]
  have Z22 := ST_R0 (l := 30) (m := 21) (ST_P (t := 20) (n := 60) Z21)
  simp only [Nat.reduceAdd] at Z22
  have t22 : hty (hsetR (hpush h21 20 60) r 30 (some (r + 21))) r = some (11, 54) := by rw [ST_t0 Z22 (by omega)]; simp [uT, ht]
  have s22 := Z22.1
  generalize hsetR (hpush h21 20 60) r 30 (some (r + 21)) = h22 at *
  simp [wp_ne 192, wpE, mk_X11_init, mg, mc_X11_init, lget, lset, popN, cats, rcv, entL, isArr, kC_s, kC_n, st1, st2, st3, st4, st5, st6, st7, st8, st9, st10, st11, st12, st13, st14, st15, st16, st17, st18, st19, st20, st21, st22, st23, st24, st25, st26, st27, st28, st29, st30, st31, st32, st33, st34, st35, st36, st37, st38, st39, st40, st41, st42, st43, st44, st45, st46, st47, st48, st49, st50, st51, st52, st53, st54, st55, st56, st57, st58, st59, st60, st61, st62, st63, st64, st65, st66, st67, st68, st69, st70, st71, st72, st73, st74, st75, st76, st77, st78, st79, st80, st81, st82, st83, st84, st85, st86, st87, st88, st89, st90, st91, t22, s22, hty_P, hsz_P]
  have Z23 := ST_R0 (l := 31) (m := 22) (ST_P (t := 20) (n := 60) Z22)
  simp only [Nat.reduceAdd] at Z23
  have t23 : hty (hsetR (hpush h22 20 60) r 31 (some (r + 22))) r = some (11, 54) := by rw [ST_t0 Z23 (by omega)]; simp [uT, ht]
  have s23 := Z23.1
  generalize hsetR (hpush h22 20 60) r 31 (some (r + 22)) = h23 at *
  simp [wp_ne 201, wpE, mk_X11_init, mg, mc_X11_init, lget, lset, popN, cats, rcv, entL, isArr, kC_s, kC_n, st1, st2, st3, st4, st5, st6, st7, st8, st9, st10, st11, st12, st13, st14, st15, st16, st17, st18, st19, st20, st21, st22, st23, st24, st25, st26, st27, st28, st29, st30, st31, st32, st33, st34, st35, st36, st37, st38, st39, st40, st41, st42, st43, st44, st45, st46, st47, st48, st49, st50, st51, st52, st53, st54, st55, st56, st57, st58, st59, st60, st61, st62, st63, st64, st65, st66, st67, st68, st69, st70, st71, st72, st73, st74, st75, st76, st77, st78, st79, st80, st81, st82, st83, st84, st85, st86, st87, st88, st89, st90, st91, t23, s23, hty_P, hsz_P]
  have Z24 := ST_R0 (l := 32) (m := 23) (ST_P (t := 20) (n := 130) Z23)
  simp only [Nat.reduceAdd] at Z24
  have t24 : hty (hsetR (hpush h23 20 130) r 32 (some (r + 23))) r = some (11, 54) := by rw [ST_t0 Z24 (by omega)]; simp [uT, ht]
  have s24 := Z24.1
  generalize hsetR (hpush h23 20 130) r 32 (some (r + 23)) = h24 at *
  simp [wp_ne 209, wpE, mk_X11_init, mg, mc_X11_init, lget, lset, popN, cats, rcv, entL, isArr, kC_s, kC_n, st1, st2, st3, st4, st5, st6, st7, st8, st9, st10, st11, st12, st13, st14, st15, st16, st17, st18, st19, st20, st21, st22, st23, st24, st25, st26, st27, st28, st29, st30, st31, st32, st33, st34, st35, st36, st37, st38, st39, st40, st41, st42, st43, st44, st45, st46, st47, st48, st49, st50, st51, st52, st53, st54, st55, st56, st57, st58, st59, st60, st61, st62, st63, st64, st65, st66, st67, st68, st69, st70, st71, st72, st73, st74, st75, st76, st77, st78, st79, st80, st81, st82, st83, st84, st85, st86, st87, st88, st89, st90, st91, t24, s24, hty_P, hsz_P]
  have Z25 := ST_R0 (l := 33) (m := 24) (ST_P (t := 20) (n := 60) Z24)
  simp only [Nat.reduceAdd] at Z25
  have t25 : hty (hsetR (hpush h24 20 60) r 33 (some (r + 24))) r = some (11, 54) := by rw [ST_t0 Z25 (by omega)]; simp [uT, ht]
  have s25 := Z25.1
  generalize hsetR (hpush h24 20 60) r 33 (some (r + 24)) = h25 at *
  simp [wp_ne 217, wpE, mk_X11_init, mg, mc_X11_init, lget, lset, popN, cats, rcv, entL, isArr, kC_s, kC_n, st1, st2, st3, st4, st5, st6, st7, st8, st9, st10, st11, st12, st13, st14, st15, st16, st17, st18, st19, st20, st21, st22, st23, st24, st25, st26, st27, st28, st29, st30, st31, st32, st33, st34, st35, st36, st37, st38, st39, st40, st41, st42, st43, st44, st45, st46, st47, st48, st49, st50, st51, st52, st53, st54, st55, st56, st57, st58, st59, st60, st61, st62, st63, st64, st65, st66, st67, st68, st69, st70, st71, st72, st73, st74, st75, st76, st77, st78, st79, st80, st81, st82, st83, st84, st85, st86, st87, st88, st89, st90, st91, t25, s25, hty_P, hsz_P]
  have Z26 := ST_R0 (l := 34) (m := 25) (ST_P (t := 20) (n := 60) Z25)
  simp only [Nat.reduceAdd] at Z26
  have t26 : hty (hsetR (hpush h25 20 60) r 34 (some (r + 25))) r = some (11, 54) := by rw [ST_t0 Z26 (by omega)]; simp [uT, ht]
  have s26 := Z26.1
  generalize hsetR (hpush h25 20 60) r 34 (some (r + 25)) = h26 at *
  simp [wp_ne 226, wpE, mk_X11_init, mg, mc_X11_init, lget, lset, popN, cats, rcv, entL, isArr, kC_s, kC_n, st1, st2, st3, st4, st5, st6, st7, st8, st9, st10, st11, st12, st13, st14, st15, st16, st17, st18, st19, st20, st21, st22, st23, st24, st25, st26, st27, st28, st29, st30, st31, st32, st33, st34, st35, st36, st37, st38, st39, st40, st41, st42, st43, st44, st45, st46, st47, st48, st49, st50, st51, st52, st53, st54, st55, st56, st57, st58, st59, st60, st61, st62, st63, st64, st65, st66, st67, st68, st69, st70, st71, st72, st73, st74, st75, st76, st77, st78, st79, st80, st81, st82, st83, st84, st85, st86, st87, st88, st89, st90, st91, t26, s26, hty_P, hsz_P]
  have Z27 := ST_R0 (l := 42) (m := 26) (ST_P (t := 21) (n := 1000) Z26)
  simp only [Nat.reduceAdd] at Z27
  have t27 : hty (hsetR (hpush h26 21 1000) r 42 (some (r + 26))) r = some (11, 54) := by rw [ST_t0 Z27 (by omega)]; simp [uT, ht]
  have s27 := Z27.1
  generalize hsetR (hpush h26 21 1000) r 42 (some (r + 26)) = h27 at *
  simp [wp_ne 234, wpE, mk_X11_init, mg, mc_X11_init, lget, lset, popN, cats, rcv, entL, isArr, kC_s, kC_n, st1, st2, st3, st4, st5, st6, st7, st8, st9, st10, st11, st12, st13, st14, st15, st16, st17, st18, st19, st20, st21, st22, st23, st24, st25, st26, st27, st28, st29, st30, st31, st32, st33, st34, st35, st36, st37, st38, st39, st40, st41, st42, st43, st44, st45, st46, st47, st48, st49, st50, st51, st52, st53, st54, st55, st56, st57, st58, st59, st60, st61, st62, st63, st64, st65, st66, st67, st68, st69, st70, st71, st72, st73, st74, st75, st76, st77, st78, st79, st80, st81, st82, st83, st84, st85, st86, st87, st88, st89, st90, st91, t27, s27, hty_P, hsz_P]
  have Z28 := ST_R0 (l := 46) (m := 27) (ST_P (t := 20) (n := 60) Z27)
  simp only [Nat.reduceAdd] at Z28
  have t28 : hty (hsetR (hpush h27 20 60) r 46 (some (r + 27))) r = some (11, 54) := by rw [ST_t0 Z28 (by omega)]; simp [uT, ht]
  have s28 := Z28.1
  generalize hsetR (hpush h27 20 60) r 46 (some (r + 27)) = h28 at *
  simp [wp_ne 242, wpE, mk_X11_init, mg, mc_X11_init, lget, lset, popN, cats, rcv, entL, isArr, kC_s, kC_n, st1, st2, st3, st4, st5, st6, st7, st8, st9, st10, st11, st12, st13, st14, st15, st16, st17, st18, st19, st20, st21, st22, st23, st24, st25, st26, st27, st28, st29, st30, st31, st32, st33, st34, st35, st36, st37, st38, st39, st40, st41, st42, st43, st44, st45, st46, st47, st48, st49, st50, st51, st52, st53, st54, st55, st56, st57, st58, st59, st60, st61, st62, st63, st64, st65, st66, st67, st68, st69, st70, st71, st72, st73, st74, st75, st76, st77, st78, st79, st80, st81, st82, st83, st84, st85, st86, st87, st88, st89, st90, st91, t28, s28, hty_P, hsz_P]
  have Z29 := ST_R0 (l := 47) (m := 28) (ST_P (t := 20) (n := 60) Z28)
  simp only [Nat.reduceAdd] at Z29
  have t29 : hty (hsetR (hpush h28 20 60) r 47 (some (r + 28))) r = some (11, 54) := by rw [ST_t0 Z29 (by omega)]; simp [uT, ht]
  have s29 := Z29.1
  generalize hsetR (hpush h28 20 60) r 47 (some (r + 28)) = h29 at *
  simp [wp_ne 250, wpE, mk_X11_init, mg, mc_X11_init, lget, lset, popN, cats, rcv, entL, isArr, kC_s, kC_n, st1, st2, st3, st4, st5, st6, st7, st8, st9, st10, st11, st12, st13, st14, st15, st16, st17, st18, st19, st20, st21, st22, st23, st24, st25, st26, st27, st28, st29, st30, st31, st32, st33, st34, st35, st36, st37, st38, st39, st40, st41, st42, st43, st44, st45, st46, st47, st48, st49, st50, st51, st52, st53, st54, st55, st56, st57, st58, st59, st60, st61, st62, st63, st64, st65, st66, st67, st68, st69, st70, st71, st72, st73, st74, st75, st76, st77, st78, st79, st80, st81, st82, st83, st84, st85, st86, st87, st88, st89, st90, st91, t29, s29, hty_P, hsz_P]
  have Z30 := ST_R0 (l := 48) (m := 29) (ST_P (t := 20) (n := 60) Z29)
  simp only [Nat.reduceAdd] at Z30
  have t30 : hty (hsetR (hpush h29 20 60) r 48 (some (r + 29))) r = some (11, 54) := by rw [ST_t0 Z30 (by omega)]; simp [uT, ht]
  have s30 := Z30.1
  generalize hsetR (hpush h29 20 60) r 48 (some (r + 29)) = h30 at *
  simp [wp_ne 258, wpE, mk_X11_init, mg, mc_X11_init, lget, lset, popN, cats, rcv, entL, isArr, kC_s, kC_n, st1, st2, st3, st4, st5, st6, st7, st8, st9, st10, st11, st12, st13, st14, st15, st16, st17, st18, st19, st20, st21, st22, st23, st24, st25, st26, st27, st28, st29, st30, st31, st32, st33, st34, st35, st36, st37, st38, st39, st40, st41, st42, st43, st44, st45, st46, st47, st48, st49, st50, st51, st52, st53, st54, st55, st56, st57, st58, st59, st60, st61, st62, st63, st64, st65, st66, st67, st68, st69, st70, st71, st72, st73, st74, st75, st76, st77, st78, st79, st80, st81, st82, st83, st84, st85, st86, st87, st88, st89, st90, st91, t30, s30, hty_P, hsz_P]
  have Z31 := ST_R0 (l := 49) (m := 30) (ST_P (t := 20) (n := 60) Z30)
  simp only [Nat.reduceAdd] at Z31
  have t31 : hty (hsetR (hpush h30 20 60) r 49 (some (r + 30))) r = some (11, 54) := by rw [ST_t0 Z31 (by omega)]; simp [uT, ht]
  have s31 := Z31.1
  generalize hsetR (hpush h30 20 60) r 49 (some (r + 30)) = h31 at *
  simp [wp_ne 267, wpE, mk_X11_init, mg, mc_X11_init, lget, lset, popN, cats, rcv, entL, isArr, kC_s, kC_n, st1, st2, st3, st4, st5, st6, st7, st8, st9, st10, st11, st12, st13, st14, st15, st16, st17, st18, st19, st20, st21, st22, st23, st24, st25, st26, st27, st28, st29, st30, st31, st32, st33, st34, st35, st36, st37, st38, st39, st40, st41, st42, st43, st44, st45, st46, st47, st48, st49, st50, st51, st52, st53, st54, st55, st56, st57, st58, st59, st60, st61, st62, st63, st64, st65, st66, st67, st68, st69, st70, st71, st72, st73, st74, st75, st76, st77, st78, st79, st80, st81, st82, st83, st84, st85, st86, st87, st88, st89, st90, st91, t31, s31, hty_P, hsz_P]
  have Z32 := ST_R0 (l := 50) (m := 31) (ST_P (t := 22) (n := 1002) Z31)
  simp only [Nat.reduceAdd] at Z32
  have t32 : hty (hsetR (hpush h31 22 1002) r 50 (some (r + 31))) r = some (11, 54) := by rw [ST_t0 Z32 (by omega)]; simp [uT, ht]
  have s32 := Z32.1
  generalize hsetR (hpush h31 22 1002) r 50 (some (r + 31)) = h32 at *
  have hz := X11_loop0 (G := G) (d := d - 1) (C := C) (X := fun _ _ => False) (F := fun a j => if a = 0 then (if j = 22 then -1 else 0) else if a < 32 then 0 else fi a j) (by simp [uT, ht]) (by simp [uT]) (by simp [uS, uF]) Z32 (fun a j => by
    by_cases q32 : 32 ≤ a
    · simp [uS, uF, show ¬ a < 32 by omega, show ¬ a = 0 by omega, show ¬ a = 1 by omega, show ¬ a = 2 by omega, show ¬ a = 3 by omega, show ¬ a = 4 by omega, show ¬ a = 5 by omega, show ¬ a = 6 by omega, show ¬ a = 7 by omega, show ¬ a = 8 by omega, show ¬ a = 9 by omega, show ¬ a = 10 by omega, show ¬ a = 11 by omega, show ¬ a = 12 by omega, show ¬ a = 13 by omega, show ¬ a = 14 by omega, show ¬ a = 15 by omega, show ¬ a = 16 by omega, show ¬ a = 17 by omega, show ¬ a = 18 by omega, show ¬ a = 19 by omega, show ¬ a = 20 by omega, show ¬ a = 21 by omega, show ¬ a = 22 by omega, show ¬ a = 23 by omega, show ¬ a = 24 by omega, show ¬ a = 25 by omega, show ¬ a = 26 by omega, show ¬ a = 27 by omega, show ¬ a = 28 by omega, show ¬ a = 29 by omega, show ¬ a = 30 by omega, show ¬ a = 31 by omega]
    · have hq : a = 0 ∨ a = 1 ∨ a = 2 ∨ a = 3 ∨ a = 4 ∨ a = 5 ∨ a = 6 ∨ a = 7 ∨ a = 8 ∨ a = 9 ∨ a = 10 ∨ a = 11 ∨ a = 12 ∨ a = 13 ∨ a = 14 ∨ a = 15 ∨ a = 16 ∨ a = 17 ∨ a = 18 ∨ a = 19 ∨ a = 20 ∨ a = 21 ∨ a = 22 ∨ a = 23 ∨ a = 24 ∨ a = 25 ∨ a = 26 ∨ a = 27 ∨ a = 28 ∨ a = 29 ∨ a = 30 ∨ a = 31 := by omega
      rcases hq with rfl | rfl | rfl | rfl | rfl | rfl | rfl | rfl | rfl | rfl | rfl | rfl | rfl | rfl | rfl | rfl | rfl | rfl | rfl | rfl | rfl | rfl | rfl | rfl | rfl | rfl | rfl | rfl | rfl | rfl | rfl | rfl
      all_goals simp [uS, uF, hf]) (fun hL x1 ZL => by
    have t0 := ST_t0 ZL (by omega)
    have u1 := ST_t (i := 1) ZL (by omega)
    have u4 := ST_t (i := 4) ZL (by omega)
    have u5 := ST_t (i := 5) ZL (by omega)
    have r1 := ST_r0 (j := 1) ZL (by omega)
    have r4 := ST_r0 (j := 4) ZL (by omega)
    have r5 := ST_r0 (j := 5) ZL (by omega)
    simp [uT, ht] at t0 u1 u4 u5
    simp [uS, uF] at r1 r4 r5
    have hz := hC _ _ _ _ (ST_I (i := 5) (l := 0) (v := 7) (ST_I (i := 4) (l := 0) (v := 1) (ST_I (i := 1) (l := 0) (v := 0) ZL))) ⟨by simp [uT, ht], by
      intro p hp
      simp only [rTab, List.mem_cons, List.not_mem_nil, or_false] at hp
      rcases hp with rfl | rfl | rfl | rfl | rfl | rfl | rfl | rfl | rfl | rfl | rfl | rfl | rfl | rfl | rfl | rfl | rfl | rfl | rfl | rfl | rfl | rfl | rfl | rfl | rfl | rfl | rfl | rfl | rfl | rfl | rfl <;> simp [uS, uF, uT]⟩ (fun a j => by
      simp only [uS]
      by_cases a0 : a = 0
      · subst a0; simp
      · by_cases a1 : a = 1
        · subst a1
          by_cases j0 : j = 0
          · subst j0; simp
          · simp [j0]
        · by_cases a4 : a = 4
          · subst a4; by_cases j0 : j = 0 <;> simp [j0]
          · by_cases a5 : a = 5
            · subst a5; by_cases j0 : j = 0 <;> simp [j0]
            · simp [a0, a1, a4, a5])
    (repeat' (first | with_reducible assumption | (refine And.intro ?_ ?_) | (with_reducible intro _) | (simp [wp_eq, wpE, mk_X11_init, mg, mc_X11_init, lget, lset, popN, cats, rcv, entL, isArr, kC_s, kC_n, st1, st2, st3, st4, st5, st6, st7, st8, st9, st10, st11, st12, st13, st14, st15, st16, st17, st18, st19, st20, st21, st22, st23, st24, st25, st26, st27, st28, st29, st30, st31, st32, st33, st34, st35, st36, st37, st38, st39, st40, st41, st42, st43, st44, st45, st46, st47, st48, st49, st50, st51, st52, st53, st54, st55, st56, st57, st58, st59, st60, st61, st62, st63, st64, st65, st66, st67, st68, st69, st70, st71, st72, st73, st74, st75, st76, st77, st78, st79, st80, st81, st82, st83, st84, st85, st86, st87, st88, st89, st90, st91, t0, u1, u4, u5, r1, r4, r5, hty_I, hvr_I]))) <;> (try (first | omega | exact hz)))
  (repeat' (first | with_reducible assumption | (refine And.intro ?_ ?_) | (with_reducible intro _) | (simp [wp_eq, wpE, mk_X11_init, mg, mc_X11_init, lget, lset, popN, cats, rcv, entL, isArr, kC_s, kC_n, st1, st2, st3, st4, st5, st6, st7, st8, st9, st10, st11, st12, st13, st14, st15, st16, st17, st18, st19, st20, st21, st22, st23, st24, st25, st26, st27, st28, st29, st30, st31, st32, st33, st34, st35, st36, st37, st38, st39, st40, st41, st42, st43, st44, st45, st46, st47, st48, st49, st50, st51, st52, st53, st54, st55, st56, st57, st58, st59, st60, st61, st62, st63, st64, st65, st66, st67, st68, st69, st70, st71, st72, st73, st74, st75, st76, st77, st78, st79, st80, st81, st82, st83, st84, st85, st86, st87, st88, st89, st90, st91]))) <;> (try (first | omega | exact hz))
