/-! NEW PLACES in the class -/
theorem c_isNameZ {G : Nat → Nat} {d a N s : Nat} {z : Int} {h : mH} {C : mQ} {X : mX} {w : List Int} (hz : z = ((s + w.length : Nat) : Int)) (ht : hty h a = some (21, N)) (hN : s + w.length ≤ N) (hN2 : N ≤ 60000) (hr : ro h a s w) (hC : C (some (.inl (b01 (isNm w)))) h) :
    callG (wp G) d 1 0 0 8 [.inr (.inl (some a)), .inl (s : Int), .inl z] h C X := by subst hz; exact c_isName ht hN hN2 hr hC
theorem c_entryZ {G : Nat → Nat} {d a b N s : Nat} {z : Int} {h : mH} {C : mQ} {X : mX} {v : aN} {w : List Int} (hz : z = ((s + w.length : Nat) : Int)) (hd : 2 ≤ d) (hv : ND h b v) (bw : bd w) (ht : hty h a = some (21, N)) (hN : s + w.length ≤ N) (hN2 : N ≤ 60000) (hr : ro h a s w)
    (hC : C (some (.inr (.inl ((ixF w 0 (nE v)).bind (hvr h (b + 2)))))) h) : callG (wp G) d 39 0 0 6 [.inr (.inl (some b)), .inr (.inl (some a)), .inl (s : Int), .inl z] h C X := by subst hz; exact c_entry hd hv bw ht hN hN2 hr hC
theorem np_rest {G : Nat → Nat} {d c k : Nat} {h : mH} {C : mQ} {X : mX} {L : List Int} {T : aT} {here : Nat} {O : List Int} {cp bad z : Int} {fn : Bool} {x1 x5 x7 : Option mV} (hd : 3 ≤ d) (H : CS c h L T here O cp bad) (hk : k < (wds L).length) (hz0 : z < 0 ∨ ∃ n : Nat, n < 48 ∧ z = (n : Int)) (hC : C (some (.inl (npR T L k fn z))) h) :
    wp G d 87 98 [some (.inr (.inl (some c))), x1, some (.inl (b01 fn)), some (.inl (lS L k : Int)), some (.inl (lE L k : Int)), x5, some (.inl z), x7] [] h 0 0 C X := by
  have hd0 : (0 < d) = True := eq_true (by omega)
  obtain ⟨h1, h2, h3, h4, h5, h6, h7, h8, h9, h10⟩ := H
  obtain ⟨⟨a1, a2, a3, a4, a5, a6, a7⟩, ⟨b1, b2, b3, b4, b5⟩, b6⟩ := h2
  have x1 : hty h c = some (10, 7) := h1.1 (0, 10, 7) (by decide)
  have x2 : hvr h c 0 = some (c + 1) := h1.2 (0, 0, 1) (by decide)
  have x3 : hvr h c 1 = some (c + 5) := h1.2 (0, 1, 5) (by decide)
  have h3' := h3
  obtain ⟨t1, t2, t3, t4, t5, t6, t7, t8⟩ := h3'
  have hb := lE_b L k
  have hnl := nmL_len L k
  have hE : (lE L k : Int) = ((lS L k + (nmL L k).length : Nat) : Int) := by omega
  have hro : ro h (c + 1 + 1) (lS L k) (nmL L k) := fun i hi => by rw [nmL_get (by omega)]; exact b3 _ (by omega)
  unfold npR at hC
  rcases hz0 with hn | ⟨n, hn, rfl⟩
  · rw [if_pos hn] at hC
    (repeat' (first | with_reducible assumption | (refine And.intro ?_ ?_) | (with_reducible intro _) | (simp [wp_eq, wpE, mk_X10_newPlace, mg, mc_X10_newPlace, lget, lset, popN, cats, rcv, entL, isArr, kC_s, kC_n, st1, st2, st3, st4, st5, st6, st7, st8, st9, st10, st11, st12, st13, st14, st15, st16, st17, st18, st19, st20, st21, st22, st23, st24, st25, st26, st27, st28, st29, st30, st31, st32, st33, st34, st35, st36, st37, st38, st39, st40, st41, st42, st43, st44, st45, st46, st47, st48, st49, st50, st51, st52, st53, st54, st55, st56, st57, st58, st59, st60, st61, st62, st63, st64, st65, st66, st67, st68, st69, st70, st71, st72, st73, st74, st75, st76, st77, st78, st79, st80, st81, st82, st83, st84, st85, st86, st87, st88, st89, st90, st91, hn]))) <;> (try (first | omega | exact hz))
  · rw [if_neg (by omega)] at hC
    simp only [Int.toNat_natCast] at hC
    cases hT : T n with
    | none =>
      have hr := t6 n hn hT
      rw [if_pos (by simp [tK, hT])] at hC
      (repeat' (first | with_reducible assumption | (refine c_atN hn h3 ?_) | (refine And.intro ?_ ?_) | (with_reducible intro _) | (simp [wp_eq, wpE, mk_X10_newPlace, mg, mc_X10_newPlace, lget, lset, popN, cats, rcv, entL, isArr, kC_s, kC_n, st1, st2, st3, st4, st5, st6, st7, st8, st9, st10, st11, st12, st13, st14, st15, st16, st17, st18, st19, st20, st21, st22, st23, st24, st25, st26, st27, st28, st29, st30, st31, st32, st33, st34, st35, st36, st37, st38, st39, st40, st41, st42, st43, st44, st45, st46, st47, st48, st49, st50, st51, st52, st53, st54, st55, st56, st57, st58, st59, st60, st61, st62, st63, st64, st65, st66, st67, st68, st69, st70, st71, st72, st73, st74, st75, st76, st77, st78, st79, st80, st81, st82, st83, st84, st85, st86, st87, st88, st89, st90, st91, x1, x3, t1, hd0, hr]))) <;> (try (first | omega | exact hz))
    | some v =>
      obtain ⟨a, q1, q2⟩ := t7 n v hn hT
      have q2' := q2
      obtain ⟨v1, v2, v3, v4, v5, v6, v7, v8, v9, v10, v11, v12, v13, v14, v15, v16⟩ := q2'
      simp only [tK_some hT, tB_some hT, tE_some hT] at hC
      by_cases hk0 : nK v = 0
      · rw [if_neg (by simp [hk0])] at hC
        by_cases hb2 : bAnd (nB v) 2 = 0
        · rw [if_pos (Or.inl hb2)] at hC
          (repeat' (first | with_reducible assumption | (refine c_atN hn h3 ?_) | (refine And.intro ?_ ?_) | (with_reducible intro _) | (simp [wp_eq, wpE, mk_X10_newPlace, mg, mc_X10_newPlace, lget, lset, popN, cats, rcv, entL, isArr, kC_s, kC_n, st1, st2, st3, st4, st5, st6, st7, st8, st9, st10, st11, st12, st13, st14, st15, st16, st17, st18, st19, st20, st21, st22, st23, st24, st25, st26, st27, st28, st29, st30, st31, st32, st33, st34, st35, st36, st37, st38, st39, st40, st41, st42, st43, st44, st45, st46, st47, st48, st49, st50, st51, st52, st53, st54, st55, st56, st57, st58, st59, st60, st61, st62, st63, st64, st65, st66, st67, st68, st69, st70, st71, st72, st73, st74, st75, st76, st77, st78, st79, st80, st81, st82, st83, st84, st85, st86, st87, st88, st89, st90, st91, x1, x3, t1, hd0, q1, v1, v2, v8, hk0, hb2]))) <;> (try (first | omega | exact hz))
        · by_cases hb1 : bAnd (nB v) 1 = 0
          · rw [if_pos (Or.inr hb1)] at hC
            (repeat' (first | with_reducible assumption | (refine c_atN hn h3 ?_) | (refine And.intro ?_ ?_) | (with_reducible intro _) | (simp [wp_eq, wpE, mk_X10_newPlace, mg, mc_X10_newPlace, lget, lset, popN, cats, rcv, entL, isArr, kC_s, kC_n, st1, st2, st3, st4, st5, st6, st7, st8, st9, st10, st11, st12, st13, st14, st15, st16, st17, st18, st19, st20, st21, st22, st23, st24, st25, st26, st27, st28, st29, st30, st31, st32, st33, st34, st35, st36, st37, st38, st39, st40, st41, st42, st43, st44, st45, st46, st47, st48, st49, st50, st51, st52, st53, st54, st55, st56, st57, st58, st59, st60, st61, st62, st63, st64, st65, st66, st67, st68, st69, st70, st71, st72, st73, st74, st75, st76, st77, st78, st79, st80, st81, st82, st83, st84, st85, st86, st87, st88, st89, st90, st91, x1, x3, t1, hd0, q1, v1, v2, v8, hk0, hb2, hb1]))) <;> (try (first | omega | exact hz))
          · rw [if_neg (fun q => q.elim hb2 hb1)] at hC
            cases hix : ixF (nmL L k) 0 (nE v) with
            | some i =>
              obtain ⟨m, j, g1, g2, g3⟩ := ixF_some _ _ _ _ hix
              rw [Nat.zero_add] at g1
              subst g1
              obtain ⟨e, g4, g5⟩ := v16 i _ g2
              have hbn : (ixF (nmL L k) 0 (nE v)).bind (hvr h (a + 2)) = some e := by rw [hix]; exact g4
              rw [if_pos (by rw [g3]; simp)] at hC
              (repeat' (first | with_reducible assumption | (refine c_atN hn h3 ?_) | (refine c_entryZ (s := lS L k) (w := nmL L k) hE (by omega) q2 (nmL_b b6 k) a5 (by omega) (by omega) hro ?_) | (refine And.intro ?_ ?_) | (with_reducible intro _) | (simp [wp_eq, wpE, mk_X10_newPlace, mg, mc_X10_newPlace, lget, lset, popN, cats, rcv, entL, isArr, kC_s, kC_n, st1, st2, st3, st4, st5, st6, st7, st8, st9, st10, st11, st12, st13, st14, st15, st16, st17, st18, st19, st20, st21, st22, st23, st24, st25, st26, st27, st28, st29, st30, st31, st32, st33, st34, st35, st36, st37, st38, st39, st40, st41, st42, st43, st44, st45, st46, st47, st48, st49, st50, st51, st52, st53, st54, st55, st56, st57, st58, st59, st60, st61, st62, st63, st64, st65, st66, st67, st68, st69, st70, st71, st72, st73, st74, st75, st76, st77, st78, st79, st80, st81, st82, st83, st84, st85, st86, st87, st88, st89, st90, st91, x1, x2, x3, a1, a2, t1, hd0, q1, v1, v2, v8, hk0, hb2, hb1, hbn]))) <;> (try (first | omega | exact hz))
            | none =>
              have hbn : (ixF (nmL L k) 0 (nE v)).bind (hvr h (a + 2)) = none := by rw [hix]; rfl
              rw [if_neg (by rw [ixF_none _ _ _ hix]; simp)] at hC
              by_cases hnm : (12 : Int) ≤ ((nE v).length : Int)
              · rw [if_pos (Or.inl (by omega))] at hC
                (repeat' (first | with_reducible assumption | (refine c_atN hn h3 ?_) | (refine c_entryZ (s := lS L k) (w := nmL L k) hE (by omega) q2 (nmL_b b6 k) a5 (by omega) (by omega) hro ?_) | (refine And.intro ?_ ?_) | (with_reducible intro _) | (simp [wp_eq, wpE, mk_X10_newPlace, mg, mc_X10_newPlace, lget, lset, popN, cats, rcv, entL, isArr, kC_s, kC_n, st1, st2, st3, st4, st5, st6, st7, st8, st9, st10, st11, st12, st13, st14, st15, st16, st17, st18, st19, st20, st21, st22, st23, st24, st25, st26, st27, st28, st29, st30, st31, st32, st33, st34, st35, st36, st37, st38, st39, st40, st41, st42, st43, st44, st45, st46, st47, st48, st49, st50, st51, st52, st53, st54, st55, st56, st57, st58, st59, st60, st61, st62, st63, st64, st65, st66, st67, st68, st69, st70, st71, st72, st73, st74, st75, st76, st77, st78, st79, st80, st81, st82, st83, st84, st85, st86, st87, st88, st89, st90, st91, x1, x2, x3, a1, a2, t1, hd0, q1, v1, v2, v7, v8, hk0, hb2, hb1, hbn, hnm, show 12 ≤ (nE v).length by omega]))) <;> (try (first | omega | exact hz))
              · cases fn
                · rw [if_neg (by simp; omega)] at hC
                  (repeat' (first | with_reducible assumption | (refine c_atN hn h3 ?_) | (refine c_entryZ (s := lS L k) (w := nmL L k) hE (by omega) q2 (nmL_b b6 k) a5 (by omega) (by omega) hro ?_) | (refine And.intro ?_ ?_) | (with_reducible intro _) | (simp [wp_eq, wpE, mk_X10_newPlace, mg, mc_X10_newPlace, lget, lset, popN, cats, rcv, entL, isArr, kC_s, kC_n, st1, st2, st3, st4, st5, st6, st7, st8, st9, st10, st11, st12, st13, st14, st15, st16, st17, st18, st19, st20, st21, st22, st23, st24, st25, st26, st27, st28, st29, st30, st31, st32, st33, st34, st35, st36, st37, st38, st39, st40, st41, st42, st43, st44, st45, st46, st47, st48, st49, st50, st51, st52, st53, st54, st55, st56, st57, st58, st59, st60, st61, st62, st63, st64, st65, st66, st67, st68, st69, st70, st71, st72, st73, st74, st75, st76, st77, st78, st79, st80, st81, st82, st83, st84, st85, st86, st87, st88, st89, st90, st91, x1, x2, x3, a1, a2, t1, hd0, q1, v1, v2, v7, v8, hk0, hb2, hb1, hbn, show (nE v).length < 12 by omega, show ¬ 12 ≤ (nE v).length by omega, b01]))) <;> (try (first | omega | exact hz))
                · by_cases hct : 48 ≤ cnt T 48
                  · rw [if_pos (Or.inr ⟨rfl, hct⟩)] at hC
                    (repeat' (first | with_reducible assumption | (refine c_atN hn h3 ?_) | (refine c_entryZ (s := lS L k) (w := nmL L k) hE (by omega) q2 (nmL_b b6 k) a5 (by omega) (by omega) hro ?_) | (refine And.intro ?_ ?_) | (with_reducible intro _) | (simp [wp_eq, wpE, mk_X10_newPlace, mg, mc_X10_newPlace, lget, lset, popN, cats, rcv, entL, isArr, kC_s, kC_n, st1, st2, st3, st4, st5, st6, st7, st8, st9, st10, st11, st12, st13, st14, st15, st16, st17, st18, st19, st20, st21, st22, st23, st24, st25, st26, st27, st28, st29, st30, st31, st32, st33, st34, st35, st36, st37, st38, st39, st40, st41, st42, st43, st44, st45, st46, st47, st48, st49, st50, st51, st52, st53, st54, st55, st56, st57, st58, st59, st60, st61, st62, st63, st64, st65, st66, st67, st68, st69, st70, st71, st72, st73, st74, st75, st76, st77, st78, st79, st80, st81, st82, st83, st84, st85, st86, st87, st88, st89, st90, st91, x1, x2, x3, a1, a2, t1, t4, hd0, q1, v1, v2, v7, v8, hk0, hb2, hb1, hbn, show (nE v).length < 12 by omega, show ¬ 12 ≤ (nE v).length by omega, b01, hct, show ¬ cnt T 48 < 48 by omega]))) <;> (try (first | omega | exact hz))
                  · rw [if_neg (by simp [hct]; omega)] at hC
                    (repeat' (first | with_reducible assumption | (refine c_atN hn h3 ?_) | (refine c_entryZ (s := lS L k) (w := nmL L k) hE (by omega) q2 (nmL_b b6 k) a5 (by omega) (by omega) hro ?_) | (refine And.intro ?_ ?_) | (with_reducible intro _) | (simp [wp_eq, wpE, mk_X10_newPlace, mg, mc_X10_newPlace, lget, lset, popN, cats, rcv, entL, isArr, kC_s, kC_n, st1, st2, st3, st4, st5, st6, st7, st8, st9, st10, st11, st12, st13, st14, st15, st16, st17, st18, st19, st20, st21, st22, st23, st24, st25, st26, st27, st28, st29, st30, st31, st32, st33, st34, st35, st36, st37, st38, st39, st40, st41, st42, st43, st44, st45, st46, st47, st48, st49, st50, st51, st52, st53, st54, st55, st56, st57, st58, st59, st60, st61, st62, st63, st64, st65, st66, st67, st68, st69, st70, st71, st72, st73, st74, st75, st76, st77, st78, st79, st80, st81, st82, st83, st84, st85, st86, st87, st88, st89, st90, st91, x1, x2, x3, a1, a2, t1, t4, hd0, q1, v1, v2, v7, v8, hk0, hb2, hb1, hbn, show (nE v).length < 12 by omega, show ¬ 12 ≤ (nE v).length by omega, b01, hct, show cnt T 48 < 48 by omega]))) <;> (try (first | omega | exact hz))
      · rw [if_pos hk0] at hC
        (repeat' (first | with_reducible assumption | (refine c_atN hn h3 ?_) | (refine And.intro ?_ ?_) | (with_reducible intro _) | (simp [wp_eq, wpE, mk_X10_newPlace, mg, mc_X10_newPlace, lget, lset, popN, cats, rcv, entL, isArr, kC_s, kC_n, st1, st2, st3, st4, st5, st6, st7, st8, st9, st10, st11, st12, st13, st14, st15, st16, st17, st18, st19, st20, st21, st22, st23, st24, st25, st26, st27, st28, st29, st30, st31, st32, st33, st34, st35, st36, st37, st38, st39, st40, st41, st42, st43, st44, st45, st46, st47, st48, st49, st50, st51, st52, st53, st54, st55, st56, st57, st58, st59, st60, st61, st62, st63, st64, st65, st66, st67, st68, st69, st70, st71, st72, st73, st74, st75, st76, st77, st78, st79, st80, st81, st82, st83, st84, st85, st86, st87, st88, st89, st90, st91, x1, x3, t1, hd0, q1, v1, v2, hk0]))) <;> (try (first | omega | exact hz))
theorem c_newPlace {G : Nat → Nat} {d c k : Nat} {h : mH} {C : mQ} {X : mX} {L : List Int} {T : aT} {here : Nat} {O : List Int} {cp bad : Int} {fn : Bool} (hd : 8 ≤ d) (H : CS c h L T here O cp bad)
    (hC : ∀ h', CS c h' L T here O cp bad → C (some (.inl (npl T here L k fn))) h') :
    callG (wp G) d 87 0 0 8 [.inr (.inl (some c)), .inl (k : Int), .inl (b01 fn)] h C X := by
  have HH := H
  obtain ⟨h1, h2, h3, h4, h5, h6, h7, h8, h9, h10⟩ := HH
  have hLL := h2
  obtain ⟨⟨a1, a2, a3, a4, a5, a6, a7⟩, ⟨b1, b2, b3, b4, b5⟩, b6⟩ := hLL
  have x1 : hty h c = some (10, 7) := h1.1 (0, 10, 7) (by decide)
  have x2 : hvr h c 0 = some (c + 1) := h1.2 (0, 0, 1) (by decide)
  have x3 : hvr h c 2 = some (c + 10) := h1.2 (0, 2, 10) (by decide)
  have x4 : hvr h c 1 = some (c + 5) := h1.2 (0, 1, 5) (by decide)
  have t1 := h3.1
  have t5 := h3.2.2.2.2.1
  have hw1 := h4.1
  have hb := lE_b L k
  have hnl := nmL_len L k
  have hpl := npW_len L k
  have hE : (lE L k : Int) = ((lS L k + (nmL L k).length : Nat) : Int) := by omega
  have hro : ro h (c + 1 + 1) (lS L k) (nmL L k) := fun i hi => by rw [nmL_get (by omega)]; exact b3 _ (by omega)
  unfold npl at hC
  refine cg 7 (by omega) (fun d hd => ?_)
  have hd0 : (0 < d) = True := eq_true (by omega)
  by_cases hk : k < (wds L).length
  · rw [if_neg (fun q => q hk)] at hC
    cases hnm : isNm (nmL L k) with
    | false =>
      rw [if_pos hnm] at hC
      have hz := hC h H
      (repeat' (first | with_reducible assumption | (refine c_lastStepStart (by omega) h2 ?_) | (refine c_lastStepEnd (by omega) h2 ?_) | (refine c_isNameZ (s := lS L k) (w := nmL L k) hE a5 (by omega) (by omega) hro ?_) | (refine And.intro ?_ ?_) | (with_reducible intro _) | (simp [wp_ne 98, wpE, mk_X10_newPlace, mg, mc_X10_newPlace, lget, lset, popN, cats, rcv, entL, isArr, kC_s, kC_n, st1, st2, st3, st4, st5, st6, st7, st8, st9, st10, st11, st12, st13, st14, st15, st16, st17, st18, st19, st20, st21, st22, st23, st24, st25, st26, st27, st28, st29, st30, st31, st32, st33, st34, st35, st36, st37, st38, st39, st40, st41, st42, st43, st44, st45, st46, st47, st48, st49, st50, st51, st52, st53, st54, st55, st56, st57, st58, st59, st60, st61, st62, st63, st64, st65, st66, st67, st68, st69, st70, st71, st72, st73, st74, st75, st76, st77, st78, st79, st80, st81, st82, st83, st84, st85, st86, st87, st88, st89, st90, st91, x1, x2, a1, a2, b4, hk, hd0, hnm, b01]))) <;> (try (first | omega | exact hz))
    | true =>
      rw [if_neg (by rw [hnm]; simp)] at hC
      by_cases hs : lS L k = wS L k
      · have hdd : npD T here L k = (here : Int) := by unfold npD; rw [if_pos hs]
        rw [hdd] at hC
        have hz := fun x1 x5 x7 => np_rest (G := G) (d := d) (C := C) (X := fun _ _ => False) (k := k) (fn := fn) (z := (here : Int)) (x1 := x1) (x5 := x5) (x7 := x7) (by omega) H hk (Or.inr ⟨here, h10.2.1.1, rfl⟩) (hC h H)
        have hsi : ((lS L k : Int) = (wS L k : Int)) = True := eq_true (by omega)
        (repeat' (first | with_reducible assumption | (refine c_lastStepStart (by omega) h2 ?_) | (refine c_lastStepEnd (by omega) h2 ?_) | (refine c_isNameZ (s := lS L k) (w := nmL L k) hE a5 (by omega) (by omega) hro ?_) | (refine c_start h2 ?_) | (refine And.intro ?_ ?_) | (with_reducible intro _) | (simp [wp_ne 98, wpE, mk_X10_newPlace, mg, mc_X10_newPlace, lget, lset, popN, cats, rcv, entL, isArr, kC_s, kC_n, st1, st2, st3, st4, st5, st6, st7, st8, st9, st10, st11, st12, st13, st14, st15, st16, st17, st18, st19, st20, st21, st22, st23, st24, st25, st26, st27, st28, st29, st30, st31, st32, st33, st34, st35, st36, st37, st38, st39, st40, st41, st42, st43, st44, st45, st46, st47, st48, st49, st50, st51, st52, st53, st54, st55, st56, st57, st58, st59, st60, st61, st62, st63, st64, st65, st66, st67, st68, st69, st70, st71, st72, st73, st74, st75, st76, st77, st78, st79, st80, st81, st82, st83, st84, st85, st86, st87, st88, st89, st90, st91, x1, x2, x4, a1, a2, b4, hk, hd0, hnm, hsi, b01, t1, t5]))) <;> (try (first | omega | exact hz))
        all_goals first | exact hz _ _ _ | skip
      · have hdd : npD T here L k = (wkR T true here (npW L k)).1 := by unfold npD; rw [if_neg hs]
        have hne : ¬ (lS L k : Int) = (wS L k : Int) := by omega
        rw [hdd] at hC
        have hz := fun h' (q : CS c h' L T here O cp bad) x1 x5 x7 => np_rest (G := G) (d := d) (C := C) (X := fun _ _ => False) (k := k) (fn := fn) (z := (wkR T true here (npW L k)).1) (x1 := x1) (x5 := x5) (x7 := x7) (by omega) q hk (wk_res (wf_W h10) (fun n v hT => wf_lt h10 hT) _ _ _ _ _ (by split; omega; exact h10.2.1.1)) (hC h' q)
        have hlS : (lS L k : Int) = ((wS L k + (npW L k).length : Nat) : Int) := by omega
        (repeat' (first | with_reducible assumption | (refine c_lastStepStart (by omega) h2 ?_) | (refine c_lastStepEnd (by omega) h2 ?_) | (refine c_isNameZ (s := lS L k) (w := nmL L k) hE a5 (by omega) (by omega) hro ?_) | (refine c_start h2 ?_) | (refine c_alongZ (fol := true) (o := wS L k) (u := npW L k) hlS (by omega) (Or.inl rfl) h3 h10.2.1.1 (wf_W h10) h4 a5 (by omega) (by omega) (fun i hi => by rw [npW_get (by omega)]; exact b3 _ (by omega)) (fun q => by rw [q] at hpl; simp at hpl; omega) (npW_b b6 k) (by omega) ?_) | (refine And.intro ?_ ?_) | (with_reducible intro _) | (simp [wp_ne 98, wpE, mk_X10_newPlace, mg, mc_X10_newPlace, lget, lset, popN, cats, rcv, entL, isArr, kC_s, kC_n, st1, st2, st3, st4, st5, st6, st7, st8, st9, st10, st11, st12, st13, st14, st15, st16, st17, st18, st19, st20, st21, st22, st23, st24, st25, st26, st27, st28, st29, st30, st31, st32, st33, st34, st35, st36, st37, st38, st39, st40, st41, st42, st43, st44, st45, st46, st47, st48, st49, st50, st51, st52, st53, st54, st55, st56, st57, st58, st59, st60, st61, st62, st63, st64, st65, st66, st67, st68, st69, st70, st71, st72, st73, st74, st75, st76, st77, st78, st79, st80, st81, st82, st83, st84, st85, st86, st87, st88, st89, st90, st91, x1, x2, x3, hw1, a1, a2, b4, hk, hd0, hnm, hne, b01]))) <;> (try (first | omega | exact hz))
        all_goals
          rename_i h' p1 p2 p3
          exact hz h' (CS_way H p1 p2) _ _ _
  · rw [if_pos hk] at hC
    have hz := hC h H
    (repeat' (first | with_reducible assumption | (refine And.intro ?_ ?_) | (with_reducible intro _) | (simp [wp_ne 98, wpE, mk_X10_newPlace, mg, mc_X10_newPlace, lget, lset, popN, cats, rcv, entL, isArr, kC_s, kC_n, st1, st2, st3, st4, st5, st6, st7, st8, st9, st10, st11, st12, st13, st14, st15, st16, st17, st18, st19, st20, st21, st22, st23, st24, st25, st26, st27, st28, st29, st30, st31, st32, st33, st34, st35, st36, st37, st38, st39, st40, st41, st42, st43, st44, st45, st46, st47, st48, st49, st50, st51, st52, st53, st54, st55, st56, st57, st58, st59, st60, st61, st62, st63, st64, st65, st66, st67, st68, st69, st70, st71, st72, st73, st74, st75, st76, st77, st78, st79, st80, st81, st82, st83, st84, st85, st86, st87, st88, st89, st90, st91, x1, x2, a1, b4, hk]))) <;> (try (first | omega | exact hz))
