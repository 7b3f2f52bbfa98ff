/-! places of words -/
theorem wdz_pw : ∀ (L : List Int) (o : Option Nat) (i : Nat), (∀ s, o = some s → s ≤ i) → (wdz o i L).Pairwise (fun p q => p.2 < q.1) ∧ ∀ p ∈ wdz o i L, o.getD i ≤ p.1 := by
  intro L
  induction L with
  | nil =>
    intro o i ho
    cases o with
    | none => simp [wdz]
    | some s => simp [wdz]
  | cons c L ih =>
    intro o i ho
    cases o with
    | none =>
      simp only [wdz]
      split
      · obtain ⟨h1, h2⟩ := ih none (i + 1) (by intro s h; cases h)
        exact ⟨h1, fun p hp => by have := h2 p hp; simp at this ⊢; omega⟩
      · obtain ⟨h1, h2⟩ := ih (some i) (i + 1) (by intro s h; cases h; omega)
        exact ⟨h1, fun p hp => by have := h2 p hp; simpa using this⟩
    | some s =>
      have hs := ho s rfl
      simp only [wdz]
      split
      · obtain ⟨h1, h2⟩ := ih none (i + 1) (by intro s h; cases h)
        refine ⟨List.pairwise_cons.mpr ⟨fun q hq => by have := h2 q hq; simp at this ⊢; omega, h1⟩, fun p hp => ?_⟩
        rcases List.mem_cons.mp hp with q | q
        · subst q; simp
        · have := h2 p q; simp at this ⊢; omega
      · obtain ⟨h1, h2⟩ := ih (some s) (i + 1) (by intro s' h; cases h; omega)
        exact ⟨h1, fun p hp => by have := h2 p hp; simpa using this⟩
def pos (L : List Int) (w : Nat) : Nat := if w < (wds L).length then wS L w else L.length + 1
theorem pos_step {L : List Int} {w : Nat} (hw : w < (wds L).length) : pos L w + (wd L w).length + 1 ≤ pos L (w + 1) := by
  have h1 := wds_at hw
  have h2 := wd_len L w
  have hp := (wdz_pw L none 0 (by intro s h; cases h)).1
  unfold pos
  rw [if_pos hw]
  by_cases hw1 : w + 1 < (wds L).length
  · rw [if_pos hw1]
    have h3 : (wds L)[w].2 < (wds L)[w + 1].1 := List.pairwise_iff_getElem.mp hp w (w + 1) hw hw1 (by omega)
    have e1 : wE L w = (wds L)[w].2 := by simp [wE, List.getElem?_eq_getElem hw]
    have e2 : wS L (w + 1) = (wds L)[w + 1].1 := by simp [wS, List.getElem?_eq_getElem hw1]
    omega
  · rw [if_neg hw1]; omega
theorem pos_le {L : List Int} (w : Nat) : pos L w ≤ L.length + 1 := by
  unfold pos
  by_cases hw : w < (wds L).length
  · rw [if_pos hw]; have := wds_at hw; omega
  · rw [if_neg hw]; omega
theorem kd_is {w : List Int} {i : Nat} (h1 : 1 ≤ i) (h2 : i ≤ 14) : (w == sT i) = decide (kdOf w = i) := by
  have key : ∀ i, i < 15 → 1 ≤ i → kdOf (sT i) = i := by decide
  by_cases h : kdOf w = i
  · have e := kd_sT h (by omega)
    rw [decide_eq_true h, beq_iff_eq]; exact e
  · have : ¬ w = sT i := fun q => h (by rw [q]; exact key i (by omega) h1)
    simp [h, this]
theorem kd_len {w : List Int} (h : 6 ≤ kdOf w) : 5 ≤ w.length := by
  have key : ∀ i, i < 15 → 6 ≤ i → 5 ≤ (sT i).length := by decide
  rw [kd_sT (w := w) rfl (by omega)]
  exact key _ (by have := kd_14 w; omega) h
theorem shN_p {z : aZ} (hc : z.2.2 = none) : pileZ (shN z) = pileZ z ++ [9] ∧ opsZ (shN z) = opsZ z ∧ pnd (shN z) = pnd z + 1 := by
  obtain ⟨Ls, ⟨o, a, k⟩, cu⟩ := z
  simp only at hc
  subst hc
  refine ⟨?_, rfl, rfl⟩
  cases o <;> cases a <;> simp [shN, pileZ, pileV, List.replicate_succ']
theorem shP_p {z : aZ} (hc : z.2.2 = none) : pileZ (shP z) = pileZ z ++ [12] ∧ opsZ (shP z) = opsZ z ∧ pnd (shP z) = pnd z := by
  obtain ⟨Ls, ⟨o, a, k⟩, cu⟩ := z
  simp only at hc
  subst hc
  refine ⟨by simp [shP, pileZ, pileL, pileV], by simp [shP, opsZ, opsL, opsV], by simp [shP, pnd, pndL]⟩
/-- a word where a test is wanted -/
theorem pW {G : Nat → Nat} {d r w N : Nat} {x1 x6 x7 x8 : Option mV} {C : mQ} {X : mX} {h : mH} {L M : List Int} {z : aZ} {pB dB : Bool} (hd : 5 ≤ d) (hl : L.length ≤ 100) (hw : w < (wds L).length) (hc : z.2.2 = none) (HR : RN r h) (HP : RP r h L) (HW : RW r h L) (HN : NW r h N M) (HL : PIL r h (pileZ z)) (HO : OP r h N (opsZ z)) (hb : bnz z N ≤ 51) (hzl : z.1.length ≤ 50) (f36 : hvi h r 36 = b01 pB) (f37 : hvi h r 37 = b01 dB)
    (c1 : kdOf (wd L w) = 1 → ∀ h' x6 x7 x8, chJ (sR r sPQ) h h' → NW r h' N M → PIL r h' (pileZ (shN z)) → OP r h' N (opsZ (shN z)) → hvi h' r 36 = b01 pB → hvi h' r 37 = b01 dB → wp G d 127 100053 [some (.inr (.inl (some r))), x1, some (.inl ((pileZ (shN z)).length : Int)), some (.inl ((opsZ (shN z)).length : Int)), some (.inl 1), some (.inl ((w + 1 : Nat) : Int)), x6, x7, x8] [] h' 0 0 C X)
    (c2 : kdOf (wd L w) = 2 → ∀ h' x6 x7 x8, chJ (sR r sPQ) h h' → NW r h' N M → PIL r h' (pileZ (shP z)) → OP r h' N (opsZ (shP z)) → hvi h' r 36 = b01 pB → hvi h' r 37 = b01 dB → wp G d 127 100053 [some (.inr (.inl (some r))), x1, some (.inl ((pileZ (shP z)).length : Int)), some (.inl ((opsZ (shP z)).length : Int)), some (.inl 1), some (.inl ((w + 1 : Nat) : Int)), x6, x7, x8] [] h' 0 0 C X)
    (c6 : ∀ (t : aK) (wi : Nat), 6 ≤ kdOf (wd L w) → t.1 = kdOf (wd L w) → (t.1 < 12 → t.2.1 = wi) → ((kdOf (wd L w) < 12 ∧ w + 1 < (wds L).length ∧ wi = w + 1 ∧ ∃ p, opd (kdOf (wd L w)) (wd L (w + 1)) = some p ∧ t = (kdOf (wd L w), w + 1, p.1, p.2)) ∨ (12 ≤ kdOf (wd L w) ∧ wi = w ∧ t = (kdOf (wd L w), 0, 0, 0))) → ∀ h' N' x6 x7 x8, chJ (sR r sPQ) h h' → NW r h' N' (M ++ (if t.1 = 11 then [(wi : Int)] else [])) → PIL r h' (pileZ (shT t z)) → OP r h' N' (opsZ (shT t z)) → bnz (shT t z) N' = bnz z N + 2 → hvi h' r 36 = b01 (pB || t.1 == 13) → hvi h' r 37 = b01 (dB || t.1 == 14) → wp G d 127 100053 [some (.inr (.inl (some r))), x1, some (.inl ((pileZ (shT t z)).length : Int)), some (.inl ((opsZ (shT t z)).length : Int)), some (.inl 0), some (.inl ((wi + 1 : Nat) : Int)), x6, x7, x8] [] h' 0 0 C X)
    (e6 : 6 ≤ kdOf (wd L w) → kdOf (wd L w) < 12 → (if w + 1 < (wds L).length then opd (kdOf (wd L w)) (wd L (w + 1)) else none) = none → C (some (.inl ((w + 1 : Nat) : Int))) h)
    (e0 : ¬ (kdOf (wd L w) = 1 ∨ kdOf (wd L w) = 2) → ¬ 6 ≤ kdOf (wd L w) → C (some (.inl (w : Int))) h) :
    wp G d 127 100053 [some (.inr (.inl (some r))), x1, some (.inl ((pileZ z).length : Int)), some (.inl ((opsZ z).length : Int)), some (.inl 1), some (.inl (w : Int)), x6, x7, x8] [] h 0 0 C X := by
  have hd0 : (0 < d) = True := eq_true (by omega)
  have c16 := HW.1
  have h50 := wds_len hl
  have h14 := kd_14 (wd L w)
  have hpl := pileZ_len z
  rw [hc] at hpl
  simp only [Option.toList, List.length_nil, Nat.add_zero] at hpl
  have hbz : N + (opsZ z).length + pnd z ≤ 51 := hb
  have R0 := HR.1; have R_pile := rn_pile HR; have R_operands := rn_operands HR
  have ct : ∀ {C : mQ} {X : mX}, C (some (.inl (tsO (wd L w)))) h → callG (wp G) d 123 0 0 2 [.inr (.inl (some r)), .inl (w : Int)] h C X := fun {C X} q => r_testOf (by omega) HR hl HP HW hw q
  have iw1 : ∀ {C : mQ} {X : mX}, C (some (.inl (b01 (decide (kdOf (wd L w) = 1))))) h → callG (wp G) d 98 0 0 5 [.inr (.inl (some r)), .inl (w : Int), .inl 33, .inl 0] h C X := fun {C X} q => r_isWord (a := 33) (b := 0) (by omega) HR hl HP HW hw (by rw [← kd_is (w := wd L w) (i := 1) (by omega) (by omega)] at q; exact q)
  have iw2 : ∀ {C : mQ} {X : mX}, C (some (.inl (b01 (decide (kdOf (wd L w) = 2))))) h → callG (wp G) d 98 0 0 5 [.inr (.inl (some r)), .inl (w : Int), .inl 40, .inl 0] h C X := fun {C X} q => r_isWord (a := 40) (b := 0) (by omega) HR hl HP HW hw (by rw [← kd_is (w := wd L w) (i := 2) (by omega) (by omega)] at q; exact q)
  have hwi : ¬ ((wds L).length : Int) ≤ (w : Int) := by omega
  have hwi2 : (w : Int) < ((wds L).length : Int) := by omega
  rw [wp_hd]
  by_cases k1 : kdOf (wd L w) = 1
  · obtain ⟨p1, p2, p3⟩ := shN_p hc
    have q1 : chJ (sR r sPQ) h (hsetI h (r + 23) (pileZ z).length ((9 : Nat) : Int)) := chJ_set (by simp [sR, sPQ])
    have hz := fun x6 x7 x8 => c1 k1 _ x6 x7 x8 q1 (NW_ch (l := [23]) (chJ_set (by simp [sR])) (by simp) HN) (by rw [p1]; exact pl_push HL) (by rw [p2]; exact OP_ch (l := [23]) (chJ_set (by simp [sR])) (by simp) HO) (by rw [hvi_I, if_neg (by omega)]; exact f36) (by rw [hvi_I, if_neg (by omega)]; exact f37)
    rw [p1, p2] at hz
    rw [show ((pileZ z ++ [9] : List Nat).length : Int) = ((pileZ z).length : Int) + 1 by simp] at hz
    have ets : tsO (wd L w) = -1 := by unfold tsO; rw [if_neg (by omega)]
    rw [ets] at ct
    have hp9 : (pileZ z).length < 130 := by omega
    generalize (pileZ z).length = by1 at *
    generalize (opsZ z).length = by2 at *
    (repeat' (first | with_reducible assumption | (refine ct ?_) | (refine iw1 ?_) | (refine And.intro ?_ ?_) | (with_reducible intro _) | (simp [wp_eq, wpE, mk_X11_parse, mg, mc_X11_parse, lget, lset, popN, cats, rcv, entL, isArr, kC_s, kC_n, st1, st2, st3, st4, st5, st6, st7, st8, st9, st10, st11, st12, st13, st14, st15, st16, st17, st18, st19, st20, st21, st22, st23, st24, st25, st26, st27, st28, st29, st30, st31, st32, st33, st34, st35, st36, st37, st38, st39, st40, st41, st42, st43, st44, st45, st46, st47, st48, st49, st50, st51, st52, st53, st54, st55, st56, st57, st58, st59, st60, st61, st62, st63, st64, st65, st66, st67, st68, st69, st70, st71, st72, st73, st74, st75, st76, st77, st78, st79, st80, st81, st82, st83, st84, st85, st86, st87, st88, st89, st90, st91, R0, R_pile, R_operands, -Int.natCast_add, c16, hwi, hwi2, hw, hd0, k1, b01, inR, show (w : Int) + 1 = ((w + 1 : Nat) : Int) by omega]))) <;> (try (first | omega | exact hz))
    all_goals first | omega | exact hz _ _ _
  · by_cases k2 : kdOf (wd L w) = 2
    · obtain ⟨p1, p2, p3⟩ := shP_p hc
      have q1 : chJ (sR r sPQ) h (hsetI h (r + 23) (pileZ z).length ((12 : Nat) : Int)) := chJ_set (by simp [sR, sPQ])
      have hz := fun x6 x7 x8 => c2 k2 _ x6 x7 x8 q1 (NW_ch (l := [23]) (chJ_set (by simp [sR])) (by simp) HN) (by rw [p1]; exact pl_push HL) (by rw [p2]; exact OP_ch (l := [23]) (chJ_set (by simp [sR])) (by simp) HO) (by rw [hvi_I, if_neg (by omega)]; exact f36) (by rw [hvi_I, if_neg (by omega)]; exact f37)
      rw [p1, p2] at hz
      rw [show ((pileZ z ++ [12] : List Nat).length : Int) = ((pileZ z).length : Int) + 1 by simp] at hz
      have ets : tsO (wd L w) = -1 := by unfold tsO; rw [if_neg (by omega)]
      rw [ets] at ct
      have hp9 : (pileZ z).length < 130 := by omega
      generalize (pileZ z).length = by1 at *
      generalize (opsZ z).length = by2 at *
      (repeat' (first | with_reducible assumption | (refine ct ?_) | (refine iw1 ?_) | (refine iw2 ?_) | (refine And.intro ?_ ?_) | (with_reducible intro _) | (simp [wp_eq, wpE, mk_X11_parse, mg, mc_X11_parse, lget, lset, popN, cats, rcv, entL, isArr, kC_s, kC_n, st1, st2, st3, st4, st5, st6, st7, st8, st9, st10, st11, st12, st13, st14, st15, st16, st17, st18, st19, st20, st21, st22, st23, st24, st25, st26, st27, st28, st29, st30, st31, st32, st33, st34, st35, st36, st37, st38, st39, st40, st41, st42, st43, st44, st45, st46, st47, st48, st49, st50, st51, st52, st53, st54, st55, st56, st57, st58, st59, st60, st61, st62, st63, st64, st65, st66, st67, st68, st69, st70, st71, st72, st73, st74, st75, st76, st77, st78, st79, st80, st81, st82, st83, st84, st85, st86, st87, st88, st89, st90, st91, R0, R_pile, R_operands, -Int.natCast_add, c16, hwi, hwi2, hw, hd0, k1, k2, b01, inR, show (w : Int) + 1 = ((w + 1 : Nat) : Int) by omega]))) <;> (try (first | omega | exact hz))
      all_goals first | omega | exact hz _ _ _
    · by_cases k6 : 6 ≤ kdOf (wd L w)
      · obtain ⟨tn, htn⟩ : ∃ tn, kdOf (wd L w) = tn + 6 := ⟨kdOf (wd L w) - 6, by omega⟩
        have ets : tsO (wd L w) = (tn : Int) := by unfold tsO; rw [if_pos k6, htn]; omega
        rw [ets] at ct
        have ktn1 : (decide (kdOf (wd L w) = 1)) = false := by simp [k1]
        have ktn2 : (decide (kdOf (wd L w) = 2)) = false := by simp [k2]
        rw [ktn1] at iw1
        rw [ktn2] at iw2
        simp only [b01, Bool.false_eq_true, if_false] at iw1 iw2
        by_cases k12 : kdOf (wd L w) < 12
        · by_cases hw1 : w + 1 < (wds L).length
          · have cm : ∀ {C : mQ} {X : mX}, C (some (.inl (b01 (opd (kdOf (wd L w)) (wd L (w + 1))).isSome))) h → callG (wp G) d 128 0 0 3 [.inr (.inl (some r)), .inl (tn : Int), .inl ((w : Int) + 1)] h C X := fun {C X} q => by
              have := r_mayFollow (G := G) (d := d) (k := w + 1) (t := tn) (C := C) (X := X) (by omega) HR hl HP HW hw1 (by omega) (by rw [← htn]; exact q)
              rw [show ((w + 1 : Nat) : Int) = (w : Int) + 1 by omega] at this
              exact this
            have n1 : ¬ (w : Int) + 1 = ((wds L).length : Int) := by omega
            rw [if_pos hw1] at e6
            cases hop : opd (kdOf (wd L w)) (wd L (w + 1)) with
            | none =>
              have hz := e6 k6 k12 hop
              rw [hop] at cm
              simp only [Option.isSome, b01, Bool.false_eq_true, if_false] at cm
              generalize (pileZ z).length = by1 at *
              generalize (opsZ z).length = by2 at *
              rw [show ((w + 1 : Nat) : Int) = (w : Int) + 1 by omega] at hz
              (repeat' (first | with_reducible assumption | (refine ct ?_) | (refine iw1 ?_) | (refine iw2 ?_) | (refine cm ?_) | (refine And.intro ?_ ?_) | (with_reducible intro _) | (simp [wp_ne 164, wpE, mk_X11_parse, mg, mc_X11_parse, lget, lset, popN, cats, rcv, entL, isArr, kC_s, kC_n, st1, st2, st3, st4, st5, st6, st7, st8, st9, st10, st11, st12, st13, st14, st15, st16, st17, st18, st19, st20, st21, st22, st23, st24, st25, st26, st27, st28, st29, st30, st31, st32, st33, st34, st35, st36, st37, st38, st39, st40, st41, st42, st43, st44, st45, st46, st47, st48, st49, st50, st51, st52, st53, st54, st55, st56, st57, st58, st59, st60, st61, st62, st63, st64, st65, st66, st67, st68, st69, st70, st71, st72, st73, st74, st75, st76, st77, st78, st79, st80, st81, st82, st83, st84, st85, st86, st87, st88, st89, st90, st91, R0, R_pile, R_operands, c16, hwi, hwi2, hw, hd0, n1, inR, show ¬ (tn : Int) < 0 by omega, show ¬ 5 < (tn : Int) by omega, show (tn : Int) ≤ 5 by omega]))) <;> (try (first | omega | exact hz))
            | some p =>
              rw [hop] at cm
              simp only [Option.isSome, b01, if_true] at cm
              have c6' := c6 (kdOf (wd L w), w + 1, p.1, p.2) (w + 1) k6 rfl (fun _ => rfl) (Or.inl ⟨k12, hw1, rfl, p, hop, rfl⟩)
              have hz := fun x7 x8 => p164 (G := G) (d := d) (C := C) (X := X) (x1 := x1) (x7 := x7) (x8 := x8) (w := w + 1) (t := (kdOf (wd L w), w + 1, p.1, p.2)) (by omega) hc HR HN HL HO hb hzl (by omega) htn (by omega) (fun _ => rfl) f36 f37 (fun h' N' x7 x8 => c6' h' N' (some (.inl (tn : Int))) x7 x8)
              generalize (pileZ z).length = by1 at *
              generalize (opsZ z).length = by2 at *
              rw [show ((w + 1 : Nat) : Int) = (w : Int) + 1 by omega] at hz
              (repeat' (first | with_reducible assumption | (refine ct ?_) | (refine iw1 ?_) | (refine iw2 ?_) | (refine cm ?_) | (refine And.intro ?_ ?_) | (with_reducible intro _) | (simp [wp_ne 164, wpE, mk_X11_parse, mg, mc_X11_parse, lget, lset, popN, cats, rcv, entL, isArr, kC_s, kC_n, st1, st2, st3, st4, st5, st6, st7, st8, st9, st10, st11, st12, st13, st14, st15, st16, st17, st18, st19, st20, st21, st22, st23, st24, st25, st26, st27, st28, st29, st30, st31, st32, st33, st34, st35, st36, st37, st38, st39, st40, st41, st42, st43, st44, st45, st46, st47, st48, st49, st50, st51, st52, st53, st54, st55, st56, st57, st58, st59, st60, st61, st62, st63, st64, st65, st66, st67, st68, st69, st70, st71, st72, st73, st74, st75, st76, st77, st78, st79, st80, st81, st82, st83, st84, st85, st86, st87, st88, st89, st90, st91, R0, R_pile, R_operands, c16, hwi, hwi2, hw, hd0, n1, inR, show ¬ (tn : Int) < 0 by omega, show ¬ 5 < (tn : Int) by omega, show (tn : Int) ≤ 5 by omega]))) <;> (try (first | omega | exact hz))
              all_goals first | omega | exact hz _ _
          · have n1 : (w : Int) + 1 = ((wds L).length : Int) := by omega
            have hz := e6 k6 k12 (by rw [if_neg hw1])
            generalize (pileZ z).length = by1 at *
            generalize (opsZ z).length = by2 at *
            rw [show ((w + 1 : Nat) : Int) = (w : Int) + 1 by omega] at hz
            (repeat' (first | with_reducible assumption | (refine ct ?_) | (refine iw1 ?_) | (refine iw2 ?_) | (refine And.intro ?_ ?_) | (with_reducible intro _) | (simp [wp_ne 164, wpE, mk_X11_parse, mg, mc_X11_parse, lget, lset, popN, cats, rcv, entL, isArr, kC_s, kC_n, st1, st2, st3, st4, st5, st6, st7, st8, st9, st10, st11, st12, st13, st14, st15, st16, st17, st18, st19, st20, st21, st22, st23, st24, st25, st26, st27, st28, st29, st30, st31, st32, st33, st34, st35, st36, st37, st38, st39, st40, st41, st42, st43, st44, st45, st46, st47, st48, st49, st50, st51, st52, st53, st54, st55, st56, st57, st58, st59, st60, st61, st62, st63, st64, st65, st66, st67, st68, st69, st70, st71, st72, st73, st74, st75, st76, st77, st78, st79, st80, st81, st82, st83, st84, st85, st86, st87, st88, st89, st90, st91, R0, R_pile, R_operands, c16, hwi, hwi2, hw, hd0, n1, inR, show ¬ (tn : Int) < 0 by omega, show ¬ 5 < (tn : Int) by omega, show (tn : Int) ≤ 5 by omega]))) <;> (try (first | omega | exact hz))
            all_goals first | omega | (rw [n1] at hz; exact hz)
        · have c6' := c6 (kdOf (wd L w), 0, 0, 0) w k6 rfl (fun q => absurd q k12) (Or.inr ⟨by omega, rfl, rfl⟩)
          have hz := fun x7 x8 => p164 (G := G) (d := d) (C := C) (X := X) (x1 := x1) (x7 := x7) (x8 := x8) (w := w) (t := (kdOf (wd L w), 0, 0, 0)) (by omega) hc HR HN HL HO hb hzl (by omega) htn (by omega) (fun q => absurd q k12) f36 f37 (fun h' N' x7 x8 => c6' h' N' (some (.inl (tn : Int))) x7 x8)
          generalize (pileZ z).length = by1 at *
          generalize (opsZ z).length = by2 at *
          (repeat' (first | with_reducible assumption | (refine ct ?_) | (refine iw1 ?_) | (refine iw2 ?_) | (refine And.intro ?_ ?_) | (with_reducible intro _) | (simp [wp_ne 164, wpE, mk_X11_parse, mg, mc_X11_parse, lget, lset, popN, cats, rcv, entL, isArr, kC_s, kC_n, st1, st2, st3, st4, st5, st6, st7, st8, st9, st10, st11, st12, st13, st14, st15, st16, st17, st18, st19, st20, st21, st22, st23, st24, st25, st26, st27, st28, st29, st30, st31, st32, st33, st34, st35, st36, st37, st38, st39, st40, st41, st42, st43, st44, st45, st46, st47, st48, st49, st50, st51, st52, st53, st54, st55, st56, st57, st58, st59, st60, st61, st62, st63, st64, st65, st66, st67, st68, st69, st70, st71, st72, st73, st74, st75, st76, st77, st78, st79, st80, st81, st82, st83, st84, st85, st86, st87, st88, st89, st90, st91, R0, R_pile, R_operands, c16, hwi, hwi2, hw, hd0, inR, show ¬ (tn : Int) < 0 by omega, show 5 < (tn : Int) by omega, show ¬ (tn : Int) ≤ 5 by omega]))) <;> (try (first | omega | exact hz))
          all_goals first | omega | exact hz _ _
      · have ets : tsO (wd L w) = -1 := by unfold tsO; rw [if_neg k6]
        rw [ets] at ct
        have hz := e0 (by omega) k6
        generalize (pileZ z).length = by1 at *
        generalize (opsZ z).length = by2 at *
        (repeat' (first | with_reducible assumption | (refine ct ?_) | (refine iw1 ?_) | (refine iw2 ?_) | (refine And.intro ?_ ?_) | (with_reducible intro _) | (simp [wp_eq, wpE, mk_X11_parse, mg, mc_X11_parse, lget, lset, popN, cats, rcv, entL, isArr, kC_s, kC_n, st1, st2, st3, st4, st5, st6, st7, st8, st9, st10, st11, st12, st13, st14, st15, st16, st17, st18, st19, st20, st21, st22, st23, st24, st25, st26, st27, st28, st29, st30, st31, st32, st33, st34, st35, st36, st37, st38, st39, st40, st41, st42, st43, st44, st45, st46, st47, st48, st49, st50, st51, st52, st53, st54, st55, st56, st57, st58, st59, st60, st61, st62, st63, st64, st65, st66, st67, st68, st69, st70, st71, st72, st73, st74, st75, st76, st77, st78, st79, st80, st81, st82, st83, st84, st85, st86, st87, st88, st89, st90, st91, R0, R_pile, R_operands, c16, hwi, hwi2, hw, hd0, k1, k2, b01, inR]))) <;> (try (first | omega | exact hz))
