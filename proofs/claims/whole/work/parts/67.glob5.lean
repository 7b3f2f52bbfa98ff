theorem gm_out {G : Nat → Nat} {d g l a to n fr N : Nat} {h : mH} {C : mQ} {X : mX} {L w : List Int} {x1 x4 : Option mV} (hd : 1 ≤ d) (HG : GL g l h to) (H : LI l h L) (hto : to ≤ L.length) (ha : hty h a = some (21, N)) (hN : fr + n ≤ N) (hN2 : N ≤ 60000) (hw : w.length = n) (hr : ro h a fr w) (hn : n ≤ 14) :
    ∀ (m i : Nat) (e : Int) (R : Nat → Bool) (x8 x10 x11 x12 x13 x14 : Option mV), to < m + i → i ≤ to → hbt n e R → C (some (.inl (b01 (glb (lf L) to w m i R)))) h →
    wp G d 21 100068 [some (.inr (.inl (some g))), x1, some (.inr (.inl (some a))), some (.inl (fr : Int)), x4, some (.inl (n : Int)), some (.inr (.inl (some (l + 1)))), some (.inl e), x8, some (.inl (i : Int)), x10, x11, x12, x13, x14] [] h 0 0 C X := by
  have hd0 : (0 < d) = True := eq_true (by omega)
  have HG' := HG
  obtain ⟨g1, g2, g3⟩ := HG'
  have HH := H
  obtain ⟨⟨a1, a2, a3, a4, a5, a6, a7⟩, ⟨b1, b2, b3, b4, b5⟩, b6⟩ := HH
  intro m
  induction m with
  | zero => intro i e R x8 x10 x11 x12 x13 x14 hm hi; omega
  | succ m ih =>
    intro i e R x8 x10 x11 x12 x13 x14 hm hi he hC
    have bn := bt_one e (k := n) (by omega)
    have bR : bt e n = R n := by rw [he.2 n (by omega)]; simp
    rw [bR] at bn
    rw [wp_hd]
    by_cases hit : i < to
    · by_cases he0 : e = 0
      · have hR : ∀ j, j ≤ w.length → R j = (fun _ => false) j := fun j hj => by
          have := he.2 j (by omega)
          rw [he0, bt_0] at this
          simp [show j ≤ n by omega] at this
          exact this
        rw [glb_cg (m + 1) i R (fun _ => false) hR, glb_0 _ _ _ (fun _ => rfl)] at hC
        rw [hR n (by omega)] at bn
        simp [b01] at bn hC
        subst he0
        (repeat' (first | with_reducible assumption | (refine And.intro ?_ ?_) | (with_reducible intro _) | (simp [wp_eq, wpE, mk_X3_matches, mg, mc_X3_matches, lget, lset, popN, cats, rcv, entL, isArr, kC_s, kC_n, st1, st2, st3, st4, st5, st6, st7, st8, st9, st10, st11, st12, st13, st14, st15, st16, st17, st18, st19, st20, st21, st22, st23, st24, st25, st26, st27, st28, st29, st30, st31, st32, st33, st34, st35, st36, st37, st38, st39, st40, st41, st42, st43, st44, st45, st46, st47, st48, st49, st50, st51, st52, st53, st54, st55, st56, st57, st58, st59, st60, st61, st62, st63, st64, st65, st66, st67, st68, st69, st70, st71, st72, st73, st74, st75, st76, st77, st78, st79, st80, st81, st82, st83, st84, st85, st86, st87, st88, st89, st90, st91, g1, g3, hit, bn]))) <;> (try (first | omega | exact hz))
        all_goals first | omega | exact hC
      · have ci := b3 i (by omega)
        have nx := nxI_rng (f := lf L) hit
        have hmx := nxI_max (f := lf L) (to := to) (i := i)
        simp only [glb] at hC
        rw [if_pos hit] at hC
        have hgo : wp G d 21 115 [some (.inr (.inl (some g))), x1, some (.inr (.inl (some a))), some (.inl (fr : Int)), x4, some (.inl (n : Int)), some (.inr (.inl (some (l + 1)))), some (.inl e), some (.inl (nxI (lf L) to i : Int)), some (.inl (i : Int)), some (.inl (clI (lf L) to i)), x11, x12, x13, x14] [] h 0 0 C X := by
          by_cases h42 : lf L i = 42
          · rw [if_pos h42] at hC
            have hz := fun e' he' => ih (nxI (lf L) to i) e' (gst R) (some (.inl (nxI (lf L) to i : Int))) (some (.inl (clI (lf L) to i))) x11 x12 x13 x14 (by omega) (by omega) he' hC
            generalize nxI (lf L) to i = nx at *
            generalize clI (lf L) to i = cl at *
            (repeat' (first | with_reducible assumption | (refine c_fromLeastOn (by omega) he ?_) | (refine And.intro ?_ ?_) | (with_reducible intro _) | (simp [wp_eq, wpE, mk_X3_matches, mg, mc_X3_matches, lget, lset, popN, cats, rcv, entL, isArr, kC_s, kC_n, st1, st2, st3, st4, st5, st6, st7, st8, st9, st10, st11, st12, st13, st14, st15, st16, st17, st18, st19, st20, st21, st22, st23, st24, st25, st26, st27, st28, st29, st30, st31, st32, st33, st34, st35, st36, st37, st38, st39, st40, st41, st42, st43, st44, st45, st46, st47, st48, st49, st50, st51, st52, st53, st54, st55, st56, st57, st58, st59, st60, st61, st62, st63, st64, st65, st66, st67, st68, st69, st70, st71, st72, st73, st74, st75, st76, st77, st78, st79, st80, st81, st82, st83, st84, st85, st86, st87, st88, st89, st90, st91, a5, ci, h42, hd0]))) <;> (try (first | omega | exact hz))
            all_goals first | omega | exact hz _ (by assumption)
          · rw [if_neg h42] at hC
            have hin := fun x13 x14 => gm_in (G := G) (d := d) (C := C) (X := X) (nx := nxI (lf L) to i) (x1 := x1) (x4 := x4) hd HG H hto hit ha hN hN2 hw hr hn he rfl (fun l' x13 x14 hl' => ih (nxI (lf L) to i) l' _ _ _ _ _ _ _ (by omega) (by omega) hl' hC) n 0 0 x13 x14 (by omega) (by omega) ⟨by omega, fun j hj => by
              rw [bt_0]
              by_cases hj0 : j = 0
              · subst hj0; simp [glR]
              · simp [show ¬ j ≤ 0 by omega]⟩
            have hz := hin x13 x14
            generalize nxI (lf L) to i = nx at *
            generalize clI (lf L) to i = cl at *
            (repeat' (first | with_reducible assumption | (refine And.intro ?_ ?_) | (with_reducible intro _) | (simp [wp_eq, wpE, mk_X3_matches, mg, mc_X3_matches, lget, lset, popN, cats, rcv, entL, isArr, kC_s, kC_n, st1, st2, st3, st4, st5, st6, st7, st8, st9, st10, st11, st12, st13, st14, st15, st16, st17, st18, st19, st20, st21, st22, st23, st24, st25, st26, st27, st28, st29, st30, st31, st32, st33, st34, st35, st36, st37, st38, st39, st40, st41, st42, st43, st44, st45, st46, st47, st48, st49, st50, st51, st52, st53, st54, st55, st56, st57, st58, st59, st60, st61, st62, st63, st64, st65, st66, st67, st68, st69, st70, st71, st72, st73, st74, st75, st76, st77, st78, st79, st80, st81, st82, st83, st84, st85, st86, st87, st88, st89, st90, st91, a5, ci, h42]))) <;> (try (first | omega | exact hz))
            all_goals first | omega | exact hz
        have hz := hgo
        by_cases h91 : lf L i = 91
        · have hcl : clI (lf L) to i = clsg (lf L) to i := by unfold clI; rw [if_pos h91]
          rw [hcl] at hz hmx
          rcases clsg_rng (f := lf L) (to := to) (o := i) with q | ⟨q, eq, q1, -, q2, -⟩
          · rw [q] at hz hmx
            rw [if_neg (by omega)] at hmx
            have ccl : ∀ {C : mQ} {X : mX}, C (some (.inl (-1))) h → callG (wp G) d 23 0 0 5 [.inr (.inl (some g)), .inl (i : Int)] h C X := fun {C X} z => c_closing HG H hto hit (by rw [q]; exact z)
            rw [← hmx] at hz
            (repeat' (first | with_reducible assumption | (refine ccl ?_) | (refine And.intro ?_ ?_) | (with_reducible intro _) | (simp [wp_ne 115, wpE, mk_X3_matches, mg, mc_X3_matches, lget, lset, popN, cats, rcv, entL, isArr, kC_s, kC_n, st1, st2, st3, st4, st5, st6, st7, st8, st9, st10, st11, st12, st13, st14, st15, st16, st17, st18, st19, st20, st21, st22, st23, st24, st25, st26, st27, st28, st29, st30, st31, st32, st33, st34, st35, st36, st37, st38, st39, st40, st41, st42, st43, st44, st45, st46, st47, st48, st49, st50, st51, st52, st53, st54, st55, st56, st57, st58, st59, st60, st61, st62, st63, st64, st65, st66, st67, st68, st69, st70, st71, st72, st73, st74, st75, st76, st77, st78, st79, st80, st81, st82, st83, st84, st85, st86, st87, st88, st89, st90, st91, g1, g3, a5, ci, h91, hit, he0, hd0, inR, show ¬ (i : Int) < -1 by omega]))) <;> (try (first | omega | exact hz))
            all_goals first | omega | exact hz
          · rw [eq] at hz hmx
            rw [if_pos (by omega)] at hmx
            have ccl : ∀ {C : mQ} {X : mX}, C (some (.inl (q : Int))) h → callG (wp G) d 23 0 0 5 [.inr (.inl (some g)), .inl (i : Int)] h C X := fun {C X} z => c_closing HG H hto hit (by rw [eq]; exact z)
            rw [← hmx] at hz
            (repeat' (first | with_reducible assumption | (refine ccl ?_) | (refine And.intro ?_ ?_) | (with_reducible intro _) | (simp [wp_ne 115, wpE, mk_X3_matches, mg, mc_X3_matches, lget, lset, popN, cats, rcv, entL, isArr, kC_s, kC_n, st1, st2, st3, st4, st5, st6, st7, st8, st9, st10, st11, st12, st13, st14, st15, st16, st17, st18, st19, st20, st21, st22, st23, st24, st25, st26, st27, st28, st29, st30, st31, st32, st33, st34, st35, st36, st37, st38, st39, st40, st41, st42, st43, st44, st45, st46, st47, st48, st49, st50, st51, st52, st53, st54, st55, st56, st57, st58, st59, st60, st61, st62, st63, st64, st65, st66, st67, st68, st69, st70, st71, st72, st73, st74, st75, st76, st77, st78, st79, st80, st81, st82, st83, st84, st85, st86, st87, st88, st89, st90, st91, g1, g3, a5, ci, h91, hit, he0, hd0, inR, show i < q by omega]))) <;> (try (first | omega | exact hz))
            all_goals first | omega | exact hz
        · have hcl : clI (lf L) to i = -1 := by unfold clI; rw [if_neg h91]
          rw [hcl] at hz hmx
          rw [if_neg (by omega)] at hmx
          rw [← hmx] at hz
          (repeat' (first | with_reducible assumption | (refine And.intro ?_ ?_) | (with_reducible intro _) | (simp [wp_ne 115, wpE, mk_X3_matches, mg, mc_X3_matches, lget, lset, popN, cats, rcv, entL, isArr, kC_s, kC_n, st1, st2, st3, st4, st5, st6, st7, st8, st9, st10, st11, st12, st13, st14, st15, st16, st17, st18, st19, st20, st21, st22, st23, st24, st25, st26, st27, st28, st29, st30, st31, st32, st33, st34, st35, st36, st37, st38, st39, st40, st41, st42, st43, st44, st45, st46, st47, st48, st49, st50, st51, st52, st53, st54, st55, st56, st57, st58, st59, st60, st61, st62, st63, st64, st65, st66, st67, st68, st69, st70, st71, st72, st73, st74, st75, st76, st77, st78, st79, st80, st81, st82, st83, st84, st85, st86, st87, st88, st89, st90, st91, g1, g3, a5, ci, h91, hit, he0, hd0, inR, show ¬ (i : Int) < -1 by omega]))) <;> (try (first | omega | exact hz))
          all_goals first | omega | exact hz
    · simp only [glb] at hC
      rw [if_neg hit] at hC
      rw [hw] at hC
      cases hRn : R n with
      | false =>
        rw [hRn] at bn hC
        simp [b01] at bn hC
        (repeat' (first | with_reducible assumption | (refine And.intro ?_ ?_) | (with_reducible intro _) | (simp [wp_eq, wpE, mk_X3_matches, mg, mc_X3_matches, lget, lset, popN, cats, rcv, entL, isArr, kC_s, kC_n, st1, st2, st3, st4, st5, st6, st7, st8, st9, st10, st11, st12, st13, st14, st15, st16, st17, st18, st19, st20, st21, st22, st23, st24, st25, st26, st27, st28, st29, st30, st31, st32, st33, st34, st35, st36, st37, st38, st39, st40, st41, st42, st43, st44, st45, st46, st47, st48, st49, st50, st51, st52, st53, st54, st55, st56, st57, st58, st59, st60, st61, st62, st63, st64, st65, st66, st67, st68, st69, st70, st71, st72, st73, st74, st75, st76, st77, st78, st79, st80, st81, st82, st83, st84, st85, st86, st87, st88, st89, st90, st91, g1, g3, hit, bn]))) <;> (try (first | omega | exact hz))
        all_goals first | omega | exact hC
      | true =>
        rw [hRn] at bn hC
        simp [b01] at bn hC
        (repeat' (first | with_reducible assumption | (refine And.intro ?_ ?_) | (with_reducible intro _) | (simp [wp_eq, wpE, mk_X3_matches, mg, mc_X3_matches, lget, lset, popN, cats, rcv, entL, isArr, kC_s, kC_n, st1, st2, st3, st4, st5, st6, st7, st8, st9, st10, st11, st12, st13, st14, st15, st16, st17, st18, st19, st20, st21, st22, st23, st24, st25, st26, st27, st28, st29, st30, st31, st32, st33, st34, st35, st36, st37, st38, st39, st40, st41, st42, st43, st44, st45, st46, st47, st48, st49, st50, st51, st52, st53, st54, st55, st56, st57, st58, st59, st60, st61, st62, st63, st64, st65, st66, st67, st68, st69, st70, st71, st72, st73, st74, st75, st76, st77, st78, st79, st80, st81, st82, st83, st84, st85, st86, st87, st88, st89, st90, st91, g1, g3, hit, bn]))) <;> (try (first | omega | exact hz))
        all_goals first | omega | exact hC
theorem c_matches {G : Nat → Nat} {d g l a n fr N k : Nat} {h : mH} {C : mQ} {X : mX} {L w : List Int} (hd : 2 ≤ d) (g1 : hty h g = some (3, 2)) (g2 : hvr h g 0 = some l) (H : LI l h L) (hgl : l + 4 ≤ g) (hga : ¬ a = g) (ha : hty h a = some (21, N)) (hN : fr + n ≤ N) (hN2 : N ≤ 60000) (hw : w.length = n) (hr : ro h a fr w) (hn : n ≤ 14) (hC : C (some (.inl (b01 (glM L k w)))) (hsetI h g 1 (wE L k : Int))) :
    callG (wp G) d 21 0 0 15 [.inr (.inl (some g)), .inl (k : Int), .inr (.inl (some a)), .inl (fr : Int), .inl ((fr + n : Nat) : Int)] h C X := by
  have a1 := H.1.1
  have a2 := H.1.2.1
  have q1 : chI (fun x => x = g) h (hsetI h g 1 (wE L k : Int)) := chI_set rfl
  have H1 := LI_cI q1 (by omega) (by omega) (by omega) (by omega) H
  have HG1 : GL g l (hsetI h g 1 (wE L k : Int)) (wE L k) := ⟨g1, g2, by simp [hty_I, hvi_I, hvr_I, hvl_I, hsz_I, hty_R, hvi_R, hvr_R, hvl_R, hsz_R, hty_L, hvi_L, hvr_L, hvl_L, hsz_L, hty_P, hvi_P, hvr_P, hvl_P, hsz_P, hty_C, hvi_C, hvr_C, hvl_C, hsz_C]⟩
  have hr1 : ro (hsetI h g 1 (wE L k : Int)) a fr w := fun i hi => by rw [hvi_I, if_neg (fun q => hga q.1)]; exact hr i hi
  have hwl := wS_le L k
  have hl1 := H.2.1.1
  have hd9 := hd
  refine cg 1 (by omega) (fun d hd => ?_)
  have hd0 : (0 < d) = True := eq_true (by omega)
  have hz := fun x1 x4 x8 x10 x11 x12 x13 x14 => gm_out (G := G) (d := d) (C := C) (X := fun _ _ => False) (x1 := x1) (x4 := x4) (by omega) HG1 H1 hwl.2 ha hN hN2 hw hr1 hn 101 (wS L k) 1 (fun j => j == 0) x8 x10 x11 x12 x13 x14 (by omega) (by omega) ⟨by omega, fun j hj => by
    rw [bt_1]
    by_cases hj0 : j = 0
    · subst hj0; simp
    · simp [hj0]⟩ hC
  have e1 : ((fr + n : Nat) : Int) - (fr : Int) = (n : Int) := by omega
  have u1 : hvr (hsetI h g 1 (wE L k : Int)) g 0 = some l := g2
  have u2 : hty (hsetI h g 1 (wE L k : Int)) g = some (3, 2) := g1
  have u3 : hty (hsetI h g 1 (wE L k : Int)) l = some (4, 5) := a1
  generalize hh : hsetI h g 1 (wE L k : Int) = h1 at *
  (repeat' (first | with_reducible assumption | (refine c_end H ?_) | (refine c_start H1 ?_) | (refine And.intro ?_ ?_) | (with_reducible intro _) | (simp [wp_eq, wpE, mk_X3_matches, mg, mc_X3_matches, lget, lset, popN, cats, rcv, entL, isArr, kC_s, kC_n, st1, st2, st3, st4, st5, st6, st7, st8, st9, st10, st11, st12, st13, st14, st15, st16, st17, st18, st19, st20, st21, st22, st23, st24, st25, st26, st27, st28, st29, st30, st31, st32, st33, st34, st35, st36, st37, st38, st39, st40, st41, st42, st43, st44, st45, st46, st47, st48, st49, st50, st51, st52, st53, st54, st55, st56, st57, st58, st59, st60, st61, st62, st63, st64, st65, st66, st67, st68, st69, st70, st71, st72, st73, st74, st75, st76, st77, st78, st79, st80, st81, st82, st83, st84, st85, st86, st87, st88, st89, st90, st91, -Int.natCast_add, g1, g2, a1, a2, ha, e1, hd0, inR, u1, u2, u3, hh, show ¬ (fr : Int) < 0 by omega, show ¬ (N : Int) < ((fr + n : Nat) : Int) by omega, show ¬ (n : Int) < 0 by omega, show (n : Int) ≤ 14 by omega]))) <;> (try (first | omega | exact hz))
  all_goals first | omega | exact hz _ _ _ _ _ _ _ _
