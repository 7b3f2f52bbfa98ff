theorem FA_nf {c : Nat} {h : mH} {L : List Int} {T : aT} {here : Nat} {K : List aK} {pr : Int} {s : aS} {cp bad : Int} {j : Nat} {z : Int} (hj : 11 ≤ j) (H : FA c h L T here K pr s cp bad) : FA c (hsetI h (c + 19) j z) L T here K pr s cp bad := by
  have HH := H
  obtain ⟨f1, f2, f3, ⟨k6, k7, k9, k10⟩, f5⟩ := HH
  exact FA_ch H (chI_set (by unfold SA; omega)) (PG_set (by omega) (by omega) f1.2.2.2.2.2.1) (by rw [hvi_I, if_neg (by omega)]; exact k6) (by rw [hvi_I, if_neg (by omega)]; exact k7) (by rw [hvi_I, if_neg (by omega)]; exact f1.2.2.2.2.2.2.1) (by rw [hvi_I, if_neg (by omega)]; exact k9) (by rw [hvi_I, if_neg (by omega)]; exact k10) f5
theorem CF_TY {c : Nat} {h : mH} (H : CF c h) : TY (c + 20) h := ⟨H.1 (20, 8, 5) (by decide), H.2 (20, 0, 21) (by decide), H.2 (20, 1, 22) (by decide), H.2 (20, 2, 23) (by decide), H.2 (20, 3, 24) (by decide), H.1 (21, 22, 51) (by decide), H.1 (22, 22, 51) (by decide), H.1 (23, 22, 51) (by decide), H.1 (24, 22, 51) (by decide)⟩
theorem f_ask {G : Nat → Nat} {d c here a fr n : Nat} {h : mH} {C : mQ} {X : mX} {L : List Int} {T : aT} {K : List aK} {pr : Int} {s : aS} {cp bad : Int} {v : aN} {w P : List Int} (hd : 6 ≤ d) (H : FA c h L T here K pr s cp bad) (hv : ND h a v) (hb : (0 ≤ pr ∧ pr ≤ 999999) ∧ 0 ≤ nD v ∧ nD v ≤ 999999) (hK : ∀ t ∈ K, 1 ≤ t.1 ∧ t.1 ≤ 14) (hzK : okz (zK K) 0 false) (hFK : okF K) (hP : ro h (c + 25) 0 P) (bP : bd P) (hl : P.length ≤ 820) (hw : w.length = n) (hr : ro h (c + 25) fr w) (hn : n ≤ 14) (hfn : fr + n ≤ 820)
    (hC : ∀ h', chI (SQ c) h h' → FA c h' L T here K pr (askM (tsF L T here pr v w P) K P s) cp bad → C none h') :
    callG (wp G) d 16 0 0 7 [.inr (.inl (some (c + 19))), .inr (.inl (some a)), .inl (fr : Int), .inl ((fr + n : Nat) : Int), .inl (P.length : Int)] h C X := by
  have CFh := H.1.1
  have x1 : hty h (c + 19) = some (2, 14) := CFh.1 (19, 2, 14) (by decide)
  have x8 : hvr h (c + 19) 4 = some (c + 20) := CFh.2 (19, 4, 20) (by decide)
  have x9 : hty h (c + 20) = some (8, 5) := CFh.1 (20, 8, 5) (by decide)
  have H1 : FA c (hsetI (hsetI (hsetI h (c + 19) 11 (fr : Int)) (c + 19) 12 ((fr + n : Nat) : Int)) (c + 19) 13 (P.length : Int)) L T here K pr s cp bad := FA_nf (by omega) (FA_nf (by omega) (FA_nf (by omega) H))
  have N1 : NF c (hsetI (hsetI (hsetI h (c + 19) 11 (fr : Int)) (c + 19) 12 ((fr + n : Nat) : Int)) (c + 19) 13 (P.length : Int)) fr n P.length := ⟨by simp [hty_I, hvi_I, hvr_I, hvl_I, hsz_I, hty_R, hvi_R, hvr_R, hvl_R, hsz_R, hty_L, hvi_L, hvr_L, hvl_L, hsz_L, hty_P, hvi_P, hvr_P, hvl_P, hsz_P, hty_C, hvi_C, hvr_C, hvl_C, hsz_C], by simp [hty_I, hvi_I, hvr_I, hvl_I, hsz_I, hty_R, hvi_R, hvr_R, hvl_R, hsz_R, hty_L, hvi_L, hvr_L, hvl_L, hsz_L, hty_P, hvi_P, hvr_P, hvl_P, hsz_P, hty_C, hvi_C, hvr_C, hvl_C, hsz_C], by simp [hty_I, hvi_I, hvr_I, hvl_I, hsz_I, hty_R, hvi_R, hvr_R, hvl_R, hsz_R, hty_L, hvi_L, hvr_L, hvl_L, hsz_L, hty_P, hvi_P, hvr_P, hvl_P, hsz_P, hty_C, hvi_C, hvr_C, hvl_C, hsz_C]⟩
  have q1 : chI (SQ c) h (hsetI (hsetI (hsetI h (c + 19) 11 (fr : Int)) (c + 19) 12 ((fr + n : Nat) : Int)) (c + 19) 13 (P.length : Int)) := chI_trans (chI_trans (chI_set (by unfold SQ; omega)) (chI_set (by unfold SQ; omega))) (chI_set (by unfold SQ; omega))
  have TY1 := CF_TY H1.1.1
  obtain ⟨hm1, hm2⟩ := mst_rt hzK hFK (tsF L T here pr v w P) s
  have y1 : hty (hsetI (hsetI (hsetI h (c + 19) 11 (fr : Int)) (c + 19) 12 ((fr + n : Nat) : Int)) (c + 19) 13 (P.length : Int)) (c + 19) = some (2, 14) := x1
  have y8 : hvr (hsetI (hsetI (hsetI h (c + 19) 11 (fr : Int)) (c + 19) 12 ((fr + n : Nat) : Int)) (c + 19) 13 (P.length : Int)) (c + 19) 4 = some (c + 20) := x8
  have y9 : hty (hsetI (hsetI (hsetI h (c + 19) 11 (fr : Int)) (c + 19) 12 ((fr + n : Nat) : Int)) (c + 19) 13 (P.length : Int)) (c + 20) = some (8, 5) := x9
  refine cg 5 (by omega) (fun d hd => ?_)
  have hd0 : (0 < d) = True := eq_true (by omega)
  have hgo : ∀ h1, hsetI (hsetI (hsetI h (c + 19) 11 (fr : Int)) (c + 19) 12 ((fr + n : Nat) : Int)) (c + 19) 13 (P.length : Int) = h1 → ∀ x2 x3 x4, wp G d 16 16 [some (.inr (.inl (some (c + 19)))), some (.inr (.inl (some a))), x2, x3, x4, none, none] [] h1 0 0 C (fun _ _ => False) := by
    intro h1 he x2 x3 x4
    rw [he] at H1 N1 q1 TY1 y1 y8 y9
    simp [wp_eq, wpE, mk_X2_ask, mg, mc_X2_ask, lget, lset, popN, cats, rcv, entL, isArr, kC_s, kC_n, st1, st2, st3, st4, st5, st6, st7, st8, st9, st10, st11, st12, st13, st14, st15, st16, st17, st18, st19, st20, st21, st22, st23, st24, st25, st26, st27, st28, st29, st30, st31, st32, st33, st34, st35, st36, st37, st38, st39, st40, st41, st42, st43, st44, st45, st46, st47, st48, st49, st50, st51, st52, st53, st54, st55, st56, st57, st58, st59, st60, st61, st62, st63, st64, st65, st66, st67, st68, st69, st70, st71, st72, st73, st74, st75, st76, st77, st78, st79, st80, st81, st82, st83, st84, st85, st86, st87, st88, st89, st90, st91, y1, y8, y9, hd0]
    refine t_begin (by omega) TY1 (fun zzh zz1 zz2 => ?_)
    obtain ⟨zz3, zz4⟩ := FA_tr H1 zz1
    have q2 : chI (SQ c) h zzh := chI_trans q1 (chI_mono (fun a => S5_SQ) zz1)
    simp [wp_eq, wpE, mk_X2_ask, mg, mc_X2_ask, lget, lset, popN, cats, rcv, entL, isArr, kC_s, kC_n, st1, st2, st3, st4, st5, st6, st7, st8, st9, st10, st11, st12, st13, st14, st15, st16, st17, st18, st19, st20, st21, st22, st23, st24, st25, st26, st27, st28, st29, st30, st31, st32, st33, st34, st35, st36, st37, st38, st39, st40, st41, st42, st43, st44, st45, st46, st47, st48, st49, st50, st51, st52, st53, st54, st55, st56, st57, st58, st59, st60, st61, st62, st63, st64, st65, st66, st67, st68, st69, st70, st71, st72, st73, st74, st75, st76, st77, st78, st79, st80, st81, st82, st83, st84, st85, st86, st87, st88, st89, st90, st91]
    have hl0 := ask_loop (G := G) (d := d) (C := C) (X := fun _ _ => False) (x2 := x2) (x3 := x3) (x4 := x4) (by omega) CFh hv hb hK hP bP hl hw hr hn hfn K.length 0 zzh [] (true, false, true, false) s none (by omega) (by omega) (by simp) q2 zz3 (by simpa using zz2) (NF_eq (fun j _ => zz4 j) N1)
    refine hl0 (fun h' i' x6 r1 r2 r3 r4 => ?_)
    rw [List.drop_zero, hm1] at r3
    rw [List.drop_zero] at r2
    have e1 : lva (K.foldl (mst (tsF L T here pr v w P)) ([], (true, false, true, false), s)).2.1 = (evB (tsF L T here pr v w P) (rtK K) s).1 := congrArg (fun p : Bool × aS => p.1) hm2
    have e2 : (K.foldl (mst (tsF L T here pr v w P)) ([], (true, false, true, false), s)).2.2 = (evB (tsF L T here pr v w P) (rtK K) s).2 := congrArg (fun p : Bool × aS => p.2) hm2
    rw [e2] at r2
    generalize (K.foldl (mst (tsF L T here pr v w P)) ([], (true, false, true, false), s)).2.1 = vv at *
    have CF2 := r2.1.1
    have z1 : hty h' (c + 19) = some (2, 14) := CF2.1 (19, 2, 14) (by decide)
    have z2 : hvr h' (c + 19) 1 = some (c + 14) := CF2.2 (19, 1, 14) (by decide)
    have z3 : hty h' (c + 14) = some (1, 8) := CF2.1 (14, 1, 8) (by decide)
    have z8 : hvr h' (c + 19) 4 = some (c + 20) := CF2.2 (19, 4, 20) (by decide)
    have z9 : hty h' (c + 20) = some (8, 5) := CF2.1 (20, 8, 5) (by decide)
    have z6 : hvi h' (c + 14) 6 = b01 (K.any (fun t => t.1 == 13)) := r2.2.1.2.2.1
    unfold askM at hC
    cases hpr : K.any (fun t => t.1 == 13) with
    | true =>
      rw [hpr, if_pos rfl] at hC
      rw [hpr] at z6
      simp [b01] at z6
      have hz := hC h' r1 r2
      (repeat' (first | with_reducible assumption | (refine And.intro ?_ ?_) | (with_reducible intro _) | (simp [wp_eq, wpE, mk_X2_ask, mg, mc_X2_ask, lget, lset, popN, cats, rcv, entL, isArr, kC_s, kC_n, st1, st2, st3, st4, st5, st6, st7, st8, st9, st10, st11, st12, st13, st14, st15, st16, st17, st18, st19, st20, st21, st22, st23, st24, st25, st26, st27, st28, st29, st30, st31, st32, st33, st34, st35, st36, st37, st38, st39, st40, st41, st42, st43, st44, st45, st46, st47, st48, st49, st50, st51, st52, st53, st54, st55, st56, st57, st58, st59, st60, st61, st62, st63, st64, st65, st66, st67, st68, st69, st70, st71, st72, st73, st74, st75, st76, st77, st78, st79, st80, st81, st82, st83, st84, st85, st86, st87, st88, st89, st90, st91, z1, z2, z3, z6]))) <;> (try (first | omega | exact hz))
    | false =>
      rw [hpr, if_neg (by simp)] at hC
      rw [hpr] at z6
      simp [b01] at z6
      simp [wp_eq, wpE, mk_X2_ask, mg, mc_X2_ask, lget, lset, popN, cats, rcv, entL, isArr, kC_s, kC_n, st1, st2, st3, st4, st5, st6, st7, st8, st9, st10, st11, st12, st13, st14, st15, st16, st17, st18, st19, st20, st21, st22, st23, st24, st25, st26, st27, st28, st29, st30, st31, st32, st33, st34, st35, st36, st37, st38, st39, st40, st41, st42, st43, st44, st45, st46, st47, st48, st49, st50, st51, st52, st53, st54, st55, st56, st57, st58, st59, st60, st61, st62, st63, st64, st65, st66, st67, st68, st69, st70, st71, st72, st73, st74, st75, st76, st77, st78, st79, st80, st81, st82, st83, st84, st85, st86, st87, st88, st89, st90, st91, z1, z2, z3, z6, z8, z9, hd0]
      refine t_value r3 ?_
      rw [e1]
      cases hvv : (evB (tsF L T here pr v w P) (rtK K) s).1 with
      | false =>
        rw [hvv, if_neg (by simp)] at hC
        have hz := hC h' r1 r2
        (repeat' (first | with_reducible assumption | (refine And.intro ?_ ?_) | (with_reducible intro _) | (simp [wp_eq, wpE, mk_X2_ask, mg, mc_X2_ask, lget, lset, popN, cats, rcv, entL, isArr, kC_s, kC_n, st1, st2, st3, st4, st5, st6, st7, st8, st9, st10, st11, st12, st13, st14, st15, st16, st17, st18, st19, st20, st21, st22, st23, st24, st25, st26, st27, st28, st29, st30, st31, st32, st33, st34, st35, st36, st37, st38, st39, st40, st41, st42, st43, st44, st45, st46, st47, st48, st49, st50, st51, st52, st53, st54, st55, st56, st57, st58, st59, st60, st61, st62, st63, st64, st65, st66, st67, st68, st69, st70, st71, st72, st73, st74, st75, st76, st77, st78, st79, st80, st81, st82, st83, st84, st85, st86, st87, st88, st89, st90, st91, b01]))) <;> (try (first | omega | exact hz))
      | true =>
        rw [hvv, if_pos rfl] at hC
        have nP : ∀ j, hvi h' (c + 25) j = hvi h (c + 25) j := fun j => r1.2.2.2.2 _ _ (by unfold SQ; omega)
        simp [wp_eq, wpE, mk_X2_ask, mg, mc_X2_ask, lget, lset, popN, cats, rcv, entL, isArr, kC_s, kC_n, st1, st2, st3, st4, st5, st6, st7, st8, st9, st10, st11, st12, st13, st14, st15, st16, st17, st18, st19, st20, st21, st22, st23, st24, st25, st26, st27, st28, st29, st30, st31, st32, st33, st34, st35, st36, st37, st38, st39, st40, st41, st42, st43, st44, st45, st46, st47, st48, st49, st50, st51, st52, st53, st54, st55, st56, st57, st58, st59, st60, st61, st62, st63, st64, st65, st66, st67, st68, st69, st70, st71, st72, st73, st74, st75, st76, st77, st78, st79, st80, st81, st82, st83, st84, st85, st86, st87, st88, st89, st90, st91, b01, z1, hd0]
        refine f_print (by omega) r2 (fun j hj => by rw [nP]; exact hP j hj) bP hl r4.2.2 (fun zzg zz5 zz6 zz7 => ?_)
        have hz := hC zzg (chI_trans r1 (chI_mono (fun a => SI_SQ) zz5)) zz6
        (repeat' (first | with_reducible assumption | (refine And.intro ?_ ?_) | (with_reducible intro _) | (simp [wp_eq, wpE, mk_X2_ask, mg, mc_X2_ask, lget, lset, popN, cats, rcv, entL, isArr, kC_s, kC_n, st1, st2, st3, st4, st5, st6, st7, st8, st9, st10, st11, st12, st13, st14, st15, st16, st17, st18, st19, st20, st21, st22, st23, st24, st25, st26, st27, st28, st29, st30, st31, st32, st33, st34, st35, st36, st37, st38, st39, st40, st41, st42, st43, st44, st45, st46, st47, st48, st49, st50, st51, st52, st53, st54, st55, st56, st57, st58, st59, st60, st61, st62, st63, st64, st65, st66, st67, st68, st69, st70, st71, st72, st73, st74, st75, st76, st77, st78, st79, st80, st81, st82, st83, st84, st85, st86, st87, st88, st89, st90, st91]))) <;> (try (first | omega | exact hz))
  have hz := hgo _ rfl
  simp [wp_ne 16, wpE, mk_X2_ask, mg, mc_X2_ask, lget, lset, popN, cats, rcv, entL, isArr, kC_s, kC_n, st1, st2, st3, st4, st5, st6, st7, st8, st9, st10, st11, st12, st13, st14, st15, st16, st17, st18, st19, st20, st21, st22, st23, st24, st25, st26, st27, st28, st29, st30, st31, st32, st33, st34, st35, st36, st37, st38, st39, st40, st41, st42, st43, st44, st45, st46, st47, st48, st49, st50, st51, st52, st53, st54, st55, st56, st57, st58, st59, st60, st61, st62, st63, st64, st65, st66, st67, st68, st69, st70, st71, st72, st73, st74, st75, st76, st77, st78, st79, st80, st81, st82, st83, st84, st85, st86, st87, st88, st89, st90, st91, x1, hty_I, -Int.natCast_add]
  exact hz _ _ _
