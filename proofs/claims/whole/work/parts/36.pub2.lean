/-! PUBLIC METHODS of the class: go, bits, make, link, tie, drop -/
theorem CS_upd {S : Nat → Prop} {c : Nat} {h h' : mH} {L : List Int} {T T' : aT} {here here' : Nat} {O : List Int} {cp bad : Int} (H : CS c h L T here O cp bad) (q : ex S h h') (hS : ∀ x, S x → hty h x = none ∨ nS h x) (hf : fsh h') (hT : TR (c + 5) h' T' here') (hI : TI (c + 5) h' T') (hw : wf T' here') : CS c h' L T' here' O cp bad := by
  obtain ⟨h1, h2, h3, h4, h5, h6, h7, h8, h9, h10⟩ := H
  have q' : ex (fun x => nS h x) h h' := ex_mono (fun x hx z => (hS x z).resolve_left hx) q
  have hk : ∀ x, nS h x → yk (hty h x) := fun x hx => by
    rcases hx with z | z | z | z
    · exact Or.inr (Or.inr (Or.inl z))
    · exact Or.inr (Or.inr (Or.inr (Or.inl z)))
    · exact Or.inr (Or.inr (Or.inr (Or.inr (Or.inl z))))
    · exact Or.inr (Or.inr (Or.inr (Or.inr (Or.inr z))))
  obtain ⟨y1, y2, y3, y4⟩ := h4
  have x0 : hty h c = some (10, 7) := h1.1 (0, 10, 7) (by decide)
  have x5 : hty h (c + 19) = some (2, 14) := h1.1 (19, 2, 14) (by decide)
  have nk : ∀ x p, hty h x = some p → ¬ p = (5, 10) → ¬ p.1 = 25 → ¬ p = (7, 3) → ¬ p = (24, 48) → ¬ nS h x := fun x p hp e1 e2 e3 e4 z => by
    rcases z with z | ⟨k, z⟩ | z | z
    · rw [hp] at z; injection z with z; exact e1 z
    · rw [hp] at z; injection z with z; exact e2 (by rw [z])
    · rw [hp] at z; injection z with z; exact e3 z
    · rw [hp] at z; injection z with z; exact e4 z
  have qy := q'.2 (c + 10) (by rw [y1]; simp)
  have qy1 := q'.2 (c + 10 + 1) (by rw [y4]; simp)
  have ny := nk _ _ y1 (by decide) (by decide) (by decide) (by decide)
  exact ⟨CF_ex q' hk h1, LI_ex q' hk h2, hT, ⟨by rw [qy.1]; exact y1, by rw [(qy.2 ny _).1]; exact y2, by rw [(qy.2 ny _).1]; exact y3, by rw [qy1.1]; exact y4⟩, hI, PG_ex q' hk h6, by rw [((q'.2 _ (by rw [x5]; simp)).2 (nk _ _ x5 (by decide) (by decide) (by decide) (by decide)) _).2]; exact h7, by rw [((q'.2 _ (by rw [x0]; simp)).2 (nk _ _ x0 (by decide) (by decide) (by decide) (by decide)) _).2]; exact h8, hf, hw⟩
theorem CS_fr {S : Nat → Prop} {c : Nat} {h h' : mH} {L : List Int} {T : aT} {here : Nat} {O : List Int} {cp bad : Int} (H : CS c h L T here O cp bad) (q : ex S h h') (hS : ∀ x, S x → hty h x = none) (hf : fsh h') : CS c h' L T here O cp bad :=
  CS_upd H q (fun x z => Or.inl (hS x z)) hf (TR_ex q (fun x z => by rw [hS x z]; simp [frn]) H.2.2.1) (TI_ex q (fun x z => by rw [hS x z]; simp [frn]) H.2.2.1 H.2.2.2.2.1) H.2.2.2.2.2.2.2.2.2
theorem CS_grow {c z : Nat} {h : mH} {L : List Int} {T : aT} {here : Nat} {O : List Int} {cp bad : Int} (H : CS c h L T here O cp bad) (hz : hsz h ≤ z) : CS c (hgrow h z) L T here O cp bad :=
  CS_fr (S := fun _ => False) H ⟨hz, fun a _ => ⟨rfl, fun _ _ => ⟨rfl, rfl⟩⟩⟩ (fun _ z => z.elim) (fun a ha => H.2.2.2.2.2.2.2.2.1 a (Nat.le_trans hz ha))
def goR (T : aT) (here : Nat) (L : List Int) : Int := let z := (nwR T here L 0 true).1; if z < 0 then z else if ¬ tK T z.toNat = 0 then -3 else if bAnd (tB T z.toNat) 1 = 0 then -4 else z
theorem nwR_res {T : aT} {here : Nat} {L : List Int} {k : Nat} {fol : Bool} (h : wf T here) : (nwR T here L k fol).1 < 0 ∨ ∃ n : Nat, n < 48 ∧ (nwR T here L k fol).1 = (n : Int) := by
  unfold nwR
  split
  · exact wk_res (wf_W h) (fun n v hT => wf_lt h hT) _ _ _ _ _ (by split; omega; exact h.2.1.1)
  · left; decide
theorem goR_n {T : aT} {here : Nat} {L : List Int} (h : (nwR T here L 0 true).1 < 0) : goR T here L = (nwR T here L 0 true).1 := by unfold goR; simp [h]
theorem goR_p {T : aT} {here n : Nat} {L : List Int} (h : (nwR T here L 0 true).1 = (n : Int)) : goR T here L = if ¬ tK T n = 0 then -3 else if bAnd (tB T n) 1 = 0 then -4 else (n : Int) := by unfold goR; simp [h, show ¬ (n : Int) < 0 by omega]
theorem p_go {G : Nat → Nat} {d c : Nat} {h : mH} {C : mQ} {X : mX} {L : List Int} {T : aT} {here : Nat} {O : List Int} {cp bad : Int} (hd : 8 ≤ d) (H : CS c h L T here O cp bad) (hC : ∀ h', CS c h' L T (if 0 ≤ goR T here L then (goR T here L).toNat else here) O cp bad → C (some (.inl (goR T here L))) h') :
    callG (wp G) d 77 0 0 3 [.inr (.inl (some c))] h C X := by
  have x1 : hty h c = some (10, 7) := H.1.1 (0, 10, 7) (by decide)
  have hw := H.2.2.2.2.2.2.2.2.2
  refine cg 7 (by omega) (fun d hd => ?_)
  have hd0 : (0 < d) = True := eq_true (by omega)
  simp [wp_eq, wpE, mk_X10_go, mg, mc_X10_go, lget, lset, popN, cats, rcv, entL, isArr, kC_s, kC_n, st1, st2, st3, st4, st5, st6, st7, st8, st9, st10, st11, st12, st13, st14, st15, st16, st17, st18, st19, st20, st21, st22, st23, st24, st25, st26, st27, st28, st29, st30, st31, st32, st33, st34, st35, st36, st37, st38, st39, st40, st41, st42, st43, st44, st45, st46, st47, st48, st49, st50, st51, st52, st53, st54, st55, st56, st57, st58, st59, st60, st61, st62, st63, st64, st65, st66, st67, st68, st69, st70, st71, st72, st73, st74, st75, st76, st77, st78, st79, st80, st81, st82, st83, st84, st85, st86, st87, st88, st89, st90, st91, x1, hd0]
  refine c_nodeOfWord (k := 0) (fol := true) (by omega) H (fun h1 H1 _ => ?_)
  have x1 : hty h1 c = some (10, 7) := H1.1.1 (0, 10, 7) (by decide)
  have x2 : hvr h1 c 1 = some (c + 5) := H1.1.2 (0, 1, 5) (by decide)
  have h3 := H1.2.2.1
  have h3' := h3
  obtain ⟨t1, t2, t3, t4, t5, t6, t7, t8⟩ := h3'
  rcases nwR_res (L := L) (k := 0) (fol := true) hw with hn | ⟨n, hn, he⟩
  · rw [goR_n hn, if_neg (by omega)] at hC
    have hz := hC h1 H1
    (repeat' (first | with_reducible assumption | (refine And.intro ?_ ?_) | (with_reducible intro _) | (simp [wp_eq, wpE, mk_X10_go, mg, mc_X10_go, lget, lset, popN, cats, rcv, entL, isArr, kC_s, kC_n, st1, st2, st3, st4, st5, st6, st7, st8, st9, st10, st11, st12, st13, st14, st15, st16, st17, st18, st19, st20, st21, st22, st23, st24, st25, st26, st27, st28, st29, st30, st31, st32, st33, st34, st35, st36, st37, st38, st39, st40, st41, st42, st43, st44, st45, st46, st47, st48, st49, st50, st51, st52, st53, st54, st55, st56, st57, st58, st59, st60, st61, st62, st63, st64, st65, st66, st67, st68, st69, st70, st71, st72, st73, st74, st75, st76, st77, st78, st79, st80, st81, st82, st83, st84, st85, st86, st87, st88, st89, st90, st91, hn]))) <;> (try (first | omega | exact hz))
  · have hgp := goR_p he
    rw [he]
    cases hT : T n with
    | none =>
      have hr := t6 n hn hT
      rw [if_pos (by simp [tK, hT])] at hgp
      rw [hgp, if_neg (by decide)] at hC
      have hz := hC h1 H1
      (repeat' (first | with_reducible assumption | (refine c_atN hn h3 ?_) | (refine And.intro ?_ ?_) | (with_reducible intro _) | (simp [wp_eq, wpE, mk_X10_go, mg, mc_X10_go, lget, lset, popN, cats, rcv, entL, isArr, kC_s, kC_n, st1, st2, st3, st4, st5, st6, st7, st8, st9, st10, st11, st12, st13, st14, st15, st16, st17, st18, st19, st20, st21, st22, st23, st24, st25, st26, st27, st28, st29, st30, st31, st32, st33, st34, st35, st36, st37, st38, st39, st40, st41, st42, st43, st44, st45, st46, st47, st48, st49, st50, st51, st52, st53, st54, st55, st56, st57, st58, st59, st60, st61, st62, st63, st64, st65, st66, st67, st68, st69, st70, st71, st72, st73, st74, st75, st76, st77, st78, st79, st80, st81, st82, st83, st84, st85, st86, st87, st88, st89, st90, st91, x1, x2, t1, hd0, hr]))) <;> (try (first | omega | exact hz))
    | some v =>
      obtain ⟨a, q1, q2⟩ := t7 n v hn hT
      obtain ⟨v1, v2, v3, v4, v5, v6, v7, v8, -⟩ := q2
      rw [tK_some hT, tB_some hT] at hgp
      by_cases hk : nK v = 0
      · rw [if_neg (fun q => q hk)] at hgp
        by_cases hb : bAnd (nB v) 1 = 0
        · rw [if_pos hb] at hgp
          rw [hgp, if_neg (by decide)] at hC
          have hz := hC h1 H1
          (repeat' (first | with_reducible assumption | (refine c_atN hn h3 ?_) | (refine And.intro ?_ ?_) | (with_reducible intro _) | (simp [wp_eq, wpE, mk_X10_go, mg, mc_X10_go, lget, lset, popN, cats, rcv, entL, isArr, kC_s, kC_n, st1, st2, st3, st4, st5, st6, st7, st8, st9, st10, st11, st12, st13, st14, st15, st16, st17, st18, st19, st20, st21, st22, st23, st24, st25, st26, st27, st28, st29, st30, st31, st32, st33, st34, st35, st36, st37, st38, st39, st40, st41, st42, st43, st44, st45, st46, st47, st48, st49, st50, st51, st52, st53, st54, st55, st56, st57, st58, st59, st60, st61, st62, st63, st64, st65, st66, st67, st68, st69, st70, st71, st72, st73, st74, st75, st76, st77, st78, st79, st80, st81, st82, st83, st84, st85, st86, st87, st88, st89, st90, st91, x1, x2, t1, hd0, q1, v1, v2, v8, hk, hb]))) <;> (try (first | omega | exact hz))
        · rw [if_neg hb] at hgp
          rw [hgp, if_pos (by omega), Int.toNat_natCast] at hC
          have qq : ch (nS h1) h1 (hsetI h1 (c + 5) 2 (n : Int)) := ch_I (Or.inr (Or.inr (Or.inl t1)))
          have hTn : TR (c + 5) (hsetI h1 (c + 5) 2 (n : Int)) T n := by
            have hS : ∀ x, x = c + 5 → ¬ hty h1 x = some (0, 2) ∧ ∀ n, n ≤ 14 → ¬ hty h1 x = some (21, n) := fun x hx => by subst hx; rw [t1]; simp
            have q5 : ch (fun x => x = c + 5) h1 (hsetI h1 (c + 5) 2 (n : Int)) := ch_I rfl
            refine ⟨t1, t2, t3, by simp [hty_I, hvi_I, hvr_I, hvl_I, hsz_I, hty_R, hvi_R, hvr_R, hvl_R, hsz_R, hty_L, hvi_L, hvr_L, hvl_L, hsz_L, hty_P, hvi_P, hvr_P, hvl_P, hsz_P, hty_C, hvi_C, hvr_C, hvl_C, hsz_C, t4], by simp [hty_I, hvi_I, hvr_I, hvl_I, hsz_I, hty_R, hvi_R, hvr_R, hvl_R, hsz_R, hty_L, hvi_L, hvr_L, hvl_L, hsz_L, hty_P, hvi_P, hvr_P, hvl_P, hsz_P, hty_C, hvi_C, hvr_C, hvl_C, hsz_C], t6, fun m w hm hTm => ?_, t8⟩
            obtain ⟨b, b1, b2⟩ := t7 m w hm hTm
            refine ⟨b, b1, ND_ex (ex_ch q5) hS (fun z => ?_) (fun z => ?_) (fun z => ?_) b2⟩
            · have := b2.1; rw [z, t1] at this; cases this
            · have := b2.2.2.2.2.2.2.2.2.2.2.1; rw [z, t1] at this; cases this
            · have := b2.2.2.2.2.2.2.2.2.2.2.2.2.2.1; rw [z, t1] at this; cases this
          have hIn : TI (c + 5) (hsetI h1 (c + 5) 2 (n : Int)) T := by
            intro m w hm hTm hkm h0
            obtain ⟨a', e', s', y1, y2, y3, y4⟩ := H1.2.2.2.2.1 m w hm hTm hkm h0
            exact ⟨a', e', s', y1, y2, EN_ex (ex_ch (ch_I (a := c + 5) (S := fun x => x = c + 5) rfl)) (fun x hx => by subst hx; rw [t1]; simp) y3, y4⟩
          have hz := hC _ (CS_upd H1 (ex_ch qq) (fun x z => Or.inr z) (fsh_ch qq H1.2.2.2.2.2.2.2.2.1) hTn hIn (wf_go hw hn (by rw [tK_some hT]; exact hk)))
          (repeat' (first | with_reducible assumption | (refine c_atN hn h3 ?_) | (refine And.intro ?_ ?_) | (with_reducible intro _) | (simp [wp_eq, wpE, mk_X10_go, mg, mc_X10_go, lget, lset, popN, cats, rcv, entL, isArr, kC_s, kC_n, st1, st2, st3, st4, st5, st6, st7, st8, st9, st10, st11, st12, st13, st14, st15, st16, st17, st18, st19, st20, st21, st22, st23, st24, st25, st26, st27, st28, st29, st30, st31, st32, st33, st34, st35, st36, st37, st38, st39, st40, st41, st42, st43, st44, st45, st46, st47, st48, st49, st50, st51, st52, st53, st54, st55, st56, st57, st58, st59, st60, st61, st62, st63, st64, st65, st66, st67, st68, st69, st70, st71, st72, st73, st74, st75, st76, st77, st78, st79, st80, st81, st82, st83, st84, st85, st86, st87, st88, st89, st90, st91, x1, x2, t1, hd0, q1, v1, v2, v8, hk, hb]))) <;> (try (first | omega | exact hz))
      · rw [if_pos hk] at hgp
        rw [hgp, if_neg (by decide)] at hC
        have hz := hC h1 H1
        (repeat' (first | with_reducible assumption | (refine c_atN hn h3 ?_) | (refine And.intro ?_ ?_) | (with_reducible intro _) | (simp [wp_eq, wpE, mk_X10_go, mg, mc_X10_go, lget, lset, popN, cats, rcv, entL, isArr, kC_s, kC_n, st1, st2, st3, st4, st5, st6, st7, st8, st9, st10, st11, st12, st13, st14, st15, st16, st17, st18, st19, st20, st21, st22, st23, st24, st25, st26, st27, st28, st29, st30, st31, st32, st33, st34, st35, st36, st37, st38, st39, st40, st41, st42, st43, st44, st45, st46, st47, st48, st49, st50, st51, st52, st53, st54, st55, st56, st57, st58, st59, st60, st61, st62, st63, st64, st65, st66, st67, st68, st69, st70, st71, st72, st73, st74, st75, st76, st77, st78, st79, st80, st81, st82, st83, st84, st85, st86, st87, st88, st89, st90, st91, x1, x2, t1, hd0, q1, v1, v2, hk]))) <;> (try (first | omega | exact hz))
def biN (T : aT) (here : Nat) (L : List Int) : Int := (nwR T here L 0 true).1
def biR (T : aT) (here : Nat) (L : List Int) : Int := let z := biN T here L; if z < 0 then z else if ¬ tK T z.toNat = 0 then -11 else tB T z.toNat
def biT (T : aT) (here : Nat) (L : List Int) (b : Int) : aT := if biN T here L < 0 then T else match T (biN T here L).toNat with
  | some v => if nK v = 0 then ud T (biN T here L).toNat (some (vB v b)) else T
  | none => T
theorem biR_n {T : aT} {here : Nat} {L : List Int} {b : Int} (h : (nwR T here L 0 true).1 < 0) : biR T here L = (nwR T here L 0 true).1 ∧ biT T here L b = T := by unfold biR biT biN; simp [h]
theorem biR_p {T : aT} {here n : Nat} {L : List Int} (h : (nwR T here L 0 true).1 = (n : Int)) : biR T here L = if ¬ tK T n = 0 then -11 else tB T n := by unfold biR biN; simp [h, show ¬ (n : Int) < 0 by omega]
theorem biT_s {T : aT} {here n : Nat} {L : List Int} {b : Int} {v : aN} (h : (nwR T here L 0 true).1 = (n : Int)) (hT : T n = some v) : biT T here L b = if nK v = 0 then ud T n (some (vB v b)) else T := by unfold biT biN; simp [h, show ¬ (n : Int) < 0 by omega, hT]
theorem biT_z {T : aT} {here n : Nat} {L : List Int} {b : Int} (h : (nwR T here L 0 true).1 = (n : Int)) (hT : T n = none) : biT T here L b = T := by unfold biT biN; simp [h, show ¬ (n : Int) < 0 by omega, hT]
theorem p_bits {G : Nat → Nat} {d c : Nat} {h : mH} {C : mQ} {X : mX} {L : List Int} {T : aT} {here : Nat} {O : List Int} {cp bad b : Int} (hd : 8 ≤ d) (H : CS c h L T here O cp bad) (hX : ¬ (0 ≤ b ∧ b ≤ 7) → ∀ y, hsz h ≤ y → X 1 (hgrow h y)) (hC : (0 ≤ b ∧ b ≤ 7) → ∀ h', CS c h' L (biT T here L b) here O cp bad → C (some (.inl (biR T here L))) h') :
    callG (wp G) d 76 1 6 5 [.inr (.inl (some c)), .inl b] h C X := by
  have x1 : hty h c = some (10, 7) := H.1.1 (0, 10, 7) (by decide)
  have hw := H.2.2.2.2.2.2.2.2.2
  refine ⟨C, X, ?_, fun _ _ q => q, fun _ _ q => q⟩
  obtain ⟨d, rfl⟩ : ∃ d', d = d' + 1 := ⟨d - 1, by omega⟩
  rw [Nat.add_sub_cancel]
  have hd0 : (0 < d) = True := eq_true (by omega)
  by_cases hb : 0 ≤ b ∧ b ≤ 7
  · have hC := hC hb
    simp [wp_eq, wpE, mk_X10_bits, mg, mc_X10_bits, lget, lset, popN, cats, rcv, entL, isArr, kC_s, kC_n, st1, st2, st3, st4, st5, st6, st7, st8, st9, st10, st11, st12, st13, st14, st15, st16, st17, st18, st19, st20, st21, st22, st23, st24, st25, st26, st27, st28, st29, st30, st31, st32, st33, st34, st35, st36, st37, st38, st39, st40, st41, st42, st43, st44, st45, st46, st47, st48, st49, st50, st51, st52, st53, st54, st55, st56, st57, st58, st59, st60, st61, st62, st63, st64, st65, st66, st67, st68, st69, st70, st71, st72, st73, st74, st75, st76, st77, st78, st79, st80, st81, st82, st83, st84, st85, st86, st87, st88, st89, st90, st91, x1, hd0, show ¬ b < 0 by omega, show ¬ 7 < b by omega, hb.1, hb.2]
    refine c_nodeOfWord (k := 0) (fol := true) (by omega) H (fun h1 H1 _ => ?_)
    have x1 : hty h1 c = some (10, 7) := H1.1.1 (0, 10, 7) (by decide)
    have x2 : hvr h1 c 1 = some (c + 5) := H1.1.2 (0, 1, 5) (by decide)
    have h3 := H1.2.2.1
    have h3' := h3
    obtain ⟨t1, t2, t3, t4, t5, t6, t7, t8⟩ := h3'
    rcases nwR_res (L := L) (k := 0) (fol := true) hw with hn | ⟨n, hn, he⟩
    · rw [(biR_n (b := b) hn).1, (biR_n (b := b) hn).2] at hC
      have hz := hC h1 H1
      (repeat' (first | with_reducible assumption | (refine And.intro ?_ ?_) | (with_reducible intro _) | (simp [wp_eq, wpE, mk_X10_bits, mg, mc_X10_bits, lget, lset, popN, cats, rcv, entL, isArr, kC_s, kC_n, st1, st2, st3, st4, st5, st6, st7, st8, st9, st10, st11, st12, st13, st14, st15, st16, st17, st18, st19, st20, st21, st22, st23, st24, st25, st26, st27, st28, st29, st30, st31, st32, st33, st34, st35, st36, st37, st38, st39, st40, st41, st42, st43, st44, st45, st46, st47, st48, st49, st50, st51, st52, st53, st54, st55, st56, st57, st58, st59, st60, st61, st62, st63, st64, st65, st66, st67, st68, st69, st70, st71, st72, st73, st74, st75, st76, st77, st78, st79, st80, st81, st82, st83, st84, st85, st86, st87, st88, st89, st90, st91, hn]))) <;> (try (first | omega | exact hz))
    · have hgp := biR_p he
      rw [he]
      cases hT : T n with
      | none =>
        have hr := t6 n hn hT
        rw [if_pos (by simp [tK, hT])] at hgp
        rw [hgp, biT_z he hT] at hC
        have hz := hC h1 H1
        (repeat' (first | with_reducible assumption | (refine c_atN hn h3 ?_) | (refine And.intro ?_ ?_) | (with_reducible intro _) | (simp [wp_eq, wpE, mk_X10_bits, mg, mc_X10_bits, lget, lset, popN, cats, rcv, entL, isArr, kC_s, kC_n, st1, st2, st3, st4, st5, st6, st7, st8, st9, st10, st11, st12, st13, st14, st15, st16, st17, st18, st19, st20, st21, st22, st23, st24, st25, st26, st27, st28, st29, st30, st31, st32, st33, st34, st35, st36, st37, st38, st39, st40, st41, st42, st43, st44, st45, st46, st47, st48, st49, st50, st51, st52, st53, st54, st55, st56, st57, st58, st59, st60, st61, st62, st63, st64, st65, st66, st67, st68, st69, st70, st71, st72, st73, st74, st75, st76, st77, st78, st79, st80, st81, st82, st83, st84, st85, st86, st87, st88, st89, st90, st91, x1, x2, t1, hd0, hr]))) <;> (try (first | omega | exact hz))
      | some v =>
        obtain ⟨a, q1, q2⟩ := t7 n v hn hT
        have q2' := q2
        obtain ⟨v1, v2, v3, v4, v5, v6, v7, v8, v9, v10, -⟩ := q2'
        rw [tK_some hT, tB_some hT] at hgp
        by_cases hk : nK v = 0
        · rw [if_neg (fun q => q hk)] at hgp
          rw [hgp, biT_s he hT, if_pos hk] at hC
          have qq : ch (fun x => x = a) h1 (hsetI h1 a 6 b) := ch_I rfl
          have hND : ND (hsetI h1 a 6 b) a (vB v b) := ND_set q2 qq ⟨rfl, rfl, rfl, rfl, rfl⟩ (fun j hj => by simp [hty_I, hvi_I, hvr_I, hvl_I, hsz_I, hty_R, hvi_R, hvr_R, hvl_R, hsz_R, hty_L, hvi_L, hvr_L, hvl_L, hsz_L, hty_P, hvi_P, hvr_P, hvl_P, hsz_P, hty_C, hvi_C, hvr_C, hvl_C, hsz_C, show ¬ j = 6 by omega]) (fun j _ => by simp [hty_I, hvi_I, hvr_I, hvl_I, hsz_I, hty_R, hvi_R, hvr_R, hvl_R, hsz_R, hty_L, hvi_L, hvr_L, hvl_L, hsz_L, hty_P, hvi_P, hvr_P, hvl_P, hsz_P, hty_C, hvi_C, hvr_C, hvl_C, hsz_C]) (by simp [hty_I, hvi_I, hvr_I, hvl_I, hsz_I, hty_R, hvi_R, hvr_R, hvl_R, hsz_R, hty_L, hvi_L, hvr_L, hvl_L, hsz_L, hty_P, hvi_P, hvr_P, hvl_P, hsz_P, hty_C, hvi_C, hvr_C, hvl_C, hsz_C]; rfl) (by simp [hty_I, hvi_I, hvr_I, hvl_I, hsz_I, hty_R, hvi_R, hvr_R, hvl_R, hsz_R, hty_L, hvi_L, hvr_L, hvl_L, hsz_L, hty_P, hvi_P, hvr_P, hvl_P, hsz_P, hty_C, hvi_C, hvr_C, hvl_C, hsz_C]; exact v9) (by simp [hty_I, hvi_I, hvr_I, hvl_I, hsz_I, hty_R, hvi_R, hvr_R, hvl_R, hsz_R, hty_L, hvi_L, hvr_L, hvl_L, hsz_L, hty_P, hvi_P, hvr_P, hvl_P, hsz_P, hty_C, hvi_C, hvr_C, hvl_C, hsz_C]; exact v10)
          have hTn := TR_upd (ex_ch qq) hn h3 q1 (fun x z => Or.inl z) hND
          have hIn : TI (c + 5) (hsetI h1 a 6 b) (ud T n (some (vB v b))) := by
            intro m w hm hTm hkm h0
            have hback : ∃ w', T m = some w' ∧ nK w' = nK w ∧ nA w' = nA w := by
              by_cases hmn : m = n
              · subst hmn; rw [ud_s] at hTm; cases hTm; exact ⟨v, hT, rfl, rfl⟩
              · rw [ud_n hmn] at hTm; exact ⟨w, hTm, rfl, rfl⟩
            obtain ⟨w', z1, z2, z3⟩ := hback
            obtain ⟨a', e', s', y1, y2, y3, y4⟩ := H1.2.2.2.2.1 m w' hm z1 (by rw [z2]; exact hkm) h0
            refine ⟨a', e', s', y1, y2, EN_ex (ex_ch qq) (fun x hx => by subst hx; rw [v1]; simp) y3, ?_⟩
            rw [← z3]
            by_cases hA : nA w' = n
            · rw [hA] at y4 ⊢
              rw [tE_some ud_s]; rw [tE_some hT] at y4; exact y4
            · simp only [tE] at y4 ⊢; rw [ud_n hA]; exact y4
          have hz := hC _ (CS_upd H1 (ex_ch qq) (fun x z => Or.inr (Or.inl (by rw [z]; exact v1))) (fsh_ch qq H1.2.2.2.2.2.2.2.2.1) hTn hIn (wf_B hw hT hk hb))
          (repeat' (first | with_reducible assumption | (refine c_atN hn h3 ?_) | (refine And.intro ?_ ?_) | (with_reducible intro _) | (simp [wp_eq, wpE, mk_X10_bits, mg, mc_X10_bits, lget, lset, popN, cats, rcv, entL, isArr, kC_s, kC_n, st1, st2, st3, st4, st5, st6, st7, st8, st9, st10, st11, st12, st13, st14, st15, st16, st17, st18, st19, st20, st21, st22, st23, st24, st25, st26, st27, st28, st29, st30, st31, st32, st33, st34, st35, st36, st37, st38, st39, st40, st41, st42, st43, st44, st45, st46, st47, st48, st49, st50, st51, st52, st53, st54, st55, st56, st57, st58, st59, st60, st61, st62, st63, st64, st65, st66, st67, st68, st69, st70, st71, st72, st73, st74, st75, st76, st77, st78, st79, st80, st81, st82, st83, st84, st85, st86, st87, st88, st89, st90, st91, x1, x2, t1, hd0, q1, v1, v2, v8, hk]))) <;> (try (first | omega | exact hz))
        · rw [if_pos hk] at hgp
          rw [hgp, biT_s he hT, if_neg hk] at hC
          have hz := hC h1 H1
          (repeat' (first | with_reducible assumption | (refine c_atN hn h3 ?_) | (refine And.intro ?_ ?_) | (with_reducible intro _) | (simp [wp_eq, wpE, mk_X10_bits, mg, mc_X10_bits, lget, lset, popN, cats, rcv, entL, isArr, kC_s, kC_n, st1, st2, st3, st4, st5, st6, st7, st8, st9, st10, st11, st12, st13, st14, st15, st16, st17, st18, st19, st20, st21, st22, st23, st24, st25, st26, st27, st28, st29, st30, st31, st32, st33, st34, st35, st36, st37, st38, st39, st40, st41, st42, st43, st44, st45, st46, st47, st48, st49, st50, st51, st52, st53, st54, st55, st56, st57, st58, st59, st60, st61, st62, st63, st64, st65, st66, st67, st68, st69, st70, st71, st72, st73, st74, st75, st76, st77, st78, st79, st80, st81, st82, st83, st84, st85, st86, st87, st88, st89, st90, st91, x1, x2, t1, hd0, q1, v1, v2, hk]))) <;> (try (first | omega | exact hz))
  · have hz := hX hb
    (repeat' (first | with_reducible assumption | (refine And.intro ?_ ?_) | (with_reducible intro _) | (simp [wp_eq, wpE, mk_X10_bits, mg, mc_X10_bits, lget, lset, popN, cats, rcv, entL, isArr, kC_s, kC_n, st1, st2, st3, st4, st5, st6, st7, st8, st9, st10, st11, st12, st13, st14, st15, st16, st17, st18, st19, st20, st21, st22, st23, st24, st25, st26, st27, st28, st29, st30, st31, st32, st33, st34, st35, st36, st37, st38, st39, st40, st41, st42, st43, st44, st45, st46, st47, st48, st49, st50, st51, st52, st53, st54, st55, st56, st57, st58, st59, st60, st61, st62, st63, st64, st65, st66, st67, st68, st69, st70, st71, st72, st73, st74, st75, st76, st77, st78, st79, st80, st81, st82, st83, st84, st85, st86, st87, st88, st89, st90, st91]))) <;> (try (first | omega | exact hz))
theorem npl_ok {T : aT} {here : Nat} {L : List Int} {k : Nat} {fn : Bool} (h : wf T here) : npl T here L k fn < 0 ∨ ∃ (di : Nat) (vd : aN), npl T here L k fn = (di : Int) ∧ di < 48 ∧ k < (wds L).length ∧ isNm (nmL L k) = true ∧ T di = some vd ∧ nK vd = 0 ∧ lkE (nmL L k) (nE vd) = none ∧ (nE vd).length < 12 ∧ (fn = true → cnt T 48 < 48) := by
  unfold npl
  split
  · left; decide
  rename_i hk
  split
  · left; decide
  rename_i hn
  have hD : npD T here L k < 0 ∨ ∃ n : Nat, n < 48 ∧ npD T here L k = (n : Int) := by
    unfold npD
    split
    · right; exact ⟨here, h.2.1.1, rfl⟩
    · exact wk_res (wf_W h) (fun n v hT => wf_lt h hT) _ _ _ _ _ (by split; omega; exact h.2.1.1)
  rcases hD with hD | ⟨n, hn48, hD⟩
  · left; unfold npR; rw [if_pos hD]; exact hD
  · rw [hD]
    unfold npR
    rw [if_neg (by omega)]
    simp only [Int.toNat_natCast]
    split
    · left; decide
    rename_i hk0
    split
    · left; decide
    split
    · left; decide
    rename_i hl
    split
    · left; decide
    rename_i hc
    have hk0' : tK T n = 0 := by
      by_cases q : tK T n = 0
      · exact q
      · exact absurd q hk0
    obtain ⟨vd, hT, hkd⟩ := tK_ge hk0'
    rw [tE_some hT] at hl hc
    right
    refine ⟨n, vd, rfl, hn48, by omega, by simpa using hn, hT, hkd, by simpa using hl, by omega, fun q => ?_⟩
    by_cases q2 : 48 ≤ cnt T 48
    · exact absurd (Or.inr ⟨q, q2⟩) hc
    · omega
