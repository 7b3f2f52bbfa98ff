theorem c_oob {G : Nat → Nat} {d : Nat} {h : mH} {C : mQ} {X : mX} {z : Int} (hC : C (some (.inl (if 0 ≤ z ∧ z ≤ 999999 then 0 else 1))) h) : callG (wp G) d 85 0 0 1 [.inl z] h C X := by
  refine ⟨C, fun _ _ => False, ?_, fun _ _ q => q, fun _ _ q => q.elim⟩
  by_cases hz : 0 ≤ z ∧ z ≤ 999999
  · rw [if_pos hz] at hC
    (repeat' (first | with_reducible assumption | (refine And.intro ?_ ?_) | (with_reducible intro _) | (simp [wp_eq, wpE, mk_X10_isOutOfBounds, mg, mc_X10_isOutOfBounds, lget, lset, popN, cats, rcv, entL, isArr, kC_s, kC_n, st1, st2, st3, st4, st5, st6, st7, st8, st9, st10, st11, st12, st13, st14, st15, st16, st17, st18, st19, st20, st21, st22, st23, st24, st25, st26, st27, st28, st29, st30, st31, st32, st33, st34, st35, st36, st37, st38, st39, st40, st41, st42, st43, st44, st45, st46, st47, st48, st49, st50, st51, st52, st53, st54, st55, st56, st57, st58, st59, st60, st61, st62, st63, st64, st65, st66, st67, st68, st69, st70, st71, st72, st73, st74, st75, st76, st77, st78, st79, st80, st81, st82, st83, st84, st85, st86, st87, st88, st89, st90, st91]))) <;> (try (first | omega | exact hz))
  · rw [if_neg hz] at hC
    (repeat' (first | with_reducible assumption | (refine And.intro ?_ ?_) | (with_reducible intro _) | (simp [wp_eq, wpE, mk_X10_isOutOfBounds, mg, mc_X10_isOutOfBounds, lget, lset, popN, cats, rcv, entL, isArr, kC_s, kC_n, st1, st2, st3, st4, st5, st6, st7, st8, st9, st10, st11, st12, st13, st14, st15, st16, st17, st18, st19, st20, st21, st22, st23, st24, st25, st26, st27, st28, st29, st30, st31, st32, st33, st34, st35, st36, st37, st38, st39, st40, st41, st42, st43, st44, st45, st46, st47, st48, st49, st50, st51, st52, st53, st54, st55, st56, st57, st58, st59, st60, st61, st62, st63, st64, st65, st66, st67, st68, st69, st70, st71, st72, st73, st74, st75, st76, st77, st78, st79, st80, st81, st82, st83, st84, st85, st86, st87, st88, st89, st90, st91]))) <;> (try (first | omega | exact hz))
theorem c_settle {G : Nat → Nat} {d c b di k : Nat} {h : mH} {C : mQ} {X : mX} {L : List Int} {T : aT} {here : Nat} {O : List Int} {cp bad : Int} {vd v : aN} (hd : 6 ≤ d) (H : CS c h L T here O cp bad) (hb : ND h b v) (hnb : ∀ m, m < 48 → ¬ hvr h (c + 5 + 1) m = some b) (hfr : cnt T 48 < 48)
    (hTd : T di = some vd) (hkd : nK vd = 0) (hl : lkE (nmL L k) (nE vd) = none) (hEd : (nE vd).length < 12) (hk : k < (wds L).length) (hnm : isNm (nmL L k) = true)
    (v1 : nK v = 0 ∨ nK v = 1 ∨ nK v = 2) (v2 : nE v = []) (v2b : ¬ nK v = 0 → nB v = 0) (v3 : (nK v = 2 → ¬ nX v = []) ∧ (¬ nK v = 2 → nX v = [])) (v9 : 0 ≤ nB v ∧ nB v ≤ 7) (v10 : (0 ≤ nZ v ∧ nZ v ≤ 999999) ∧ (0 ≤ nD v ∧ nD v ≤ 999999)) (v11 : nT v = 0)
    (hC : ∀ h', CS c h' L (jnT (ud T (frF T 48) (some v)) di (nmL L k) (frF T 48) v) here O cp bad → C (some (.inl (frF T 48 : Int))) h') :
    callG (wp G) d 88 2 102 5 [.inr (.inl (some c)), .inr (.inl (some b)), .inl (di : Int), .inl (k : Int)] h C X := by
  have x1 : hty h c = some (10, 7) := H.1.1 (0, 10, 7) (by decide)
  have x2 : hvr h c 1 = some (c + 5) := H.1.2 (0, 1, 5) (by decide)
  have x3 : hvr h c 0 = some (c + 1) := H.1.2 (0, 0, 1) (by decide)
  have HH := H
  obtain ⟨h1, h2, h3, h4, h5, h6, h7, h8, h9, h10⟩ := HH
  have h3' := h3
  obtain ⟨t1, t2, t3, t4, t5, t6, t7, t8⟩ := h3'
  have bL := h2.2.1.1
  have hbb := lE_b L k
  refine cg 5 (by omega) (fun d hd => ?_)
  have hd0 : (0 < d) = True := eq_true (by omega)
  simp [wp_eq, wpE, mk_X10_settle, mg, mc_X10_settle, lget, lset, popN, cats, rcv, entL, isArr, kC_s, kC_n, st1, st2, st3, st4, st5, st6, st7, st8, st9, st10, st11, st12, st13, st14, st15, st16, st17, st18, st19, st20, st21, st22, st23, st24, st25, st26, st27, st28, st29, st30, st31, st32, st33, st34, st35, st36, st37, st38, st39, st40, st41, st42, st43, st44, st45, st46, st47, st48, st49, st50, st51, st52, st53, st54, st55, st56, st57, st58, st59, st60, st61, st62, st63, st64, st65, st66, st67, st68, st69, st70, st71, st72, st73, st74, st75, st76, st77, st78, st79, st80, st81, st82, st83, st84, st85, st86, st87, st88, st89, st90, st91, x1, x2, t1, hd0]
  refine c_Tadd h3 hb.1 hfr (fun n hn hTn hmin => ?_)
  have hnF := frF_eq hTn hn hmin
  rw [hnF] at hC
  have hdi := wf_lt h10 hTd
  have hdn : ¬ di = n := fun q => by rw [q, hTn] at hTd; cases hTd
  have qq : ch (nS h) h (hsetI (hsetR h (c + 5 + 1) n (some b)) (c + 5) 1 ((cnt T 48 : Int) + 1)) := ch_trans (ch_R (Or.inr (Or.inr (Or.inr t3)))) (ch_I (Or.inr (Or.inr (Or.inl t1))))
  have HT1 := TR_new hn hTn h3 hb hnb
  have hTI : ∀ m w, m < 48 → ¬ m = n → ud T n (some v) m = some w → nK w = 0 → ¬ m = 0 → ∃ a e s, hvr (hsetI (hsetR h (c + 5 + 1) n (some b)) (c + 5) 1 ((cnt T 48 : Int) + 1)) (c + 5 + 1) m = some a ∧ hvr (hsetI (hsetR h (c + 5 + 1) n (some b)) (c + 5) 1 ((cnt T 48 : Int) + 1)) a 9 = some e ∧ EN (hsetI (hsetR h (c + 5 + 1) n (some b)) (c + 5) 1 ((cnt T 48 : Int) + 1)) e (s, m) ∧ (s, m) ∈ tE (ud T n (some v)) (nA w) := by
    intro m w hm hmn hTm hkm h0
    rw [ud_n hmn] at hTm
    obtain ⟨a, e, s, z1, z2, z3, z4⟩ := h5 m w hm hTm hkm h0
    have ta := TR_na h3 hm z1
    have hat : ¬ a = c + 5 + 1 := fun q => by rw [q, t3] at ta; cases ta
    refine ⟨a, e, s, by simp [hty_I, hvi_I, hvr_I, hvl_I, hsz_I, hty_R, hvi_R, hvr_R, hvl_R, hsz_R, hty_L, hvi_L, hvr_L, hvl_L, hsz_L, hty_P, hvi_P, hvr_P, hvl_P, hsz_P, hty_C, hvi_C, hvr_C, hvl_C, hsz_C, hmn, z1], by simp [hty_I, hvi_I, hvr_I, hvl_I, hsz_I, hty_R, hvi_R, hvr_R, hvl_R, hsz_R, hty_L, hvi_L, hvr_L, hvl_L, hsz_L, hty_P, hvi_P, hvr_P, hvl_P, hsz_P, hty_C, hvi_C, hvr_C, hvl_C, hsz_C, hat, z2], EN_ex (ex_ch qq) (fun x hx => by rcases hx with z | ⟨k, z⟩ | z | z <;> rw [z] <;> simp) z3, ?_⟩
    by_cases hA : nA w = n
    · rw [hA] at z4; simp [tE, hTn] at z4
    · simp only [tE] at z4 ⊢; rw [ud_n hA]; exact z4
  have f1 := fsh_ch qq h9
  have y1 : hty (hsetI (hsetR h (c + 5 + 1) n (some b)) (c + 5) 1 ((cnt T 48 : Int) + 1)) c = some (10, 7) := x1
  have y2 : hvr (hsetI (hsetR h (c + 5 + 1) n (some b)) (c + 5) 1 ((cnt T 48 : Int) + 1)) c 1 = some (c + 5) := by simp [hty_I, hvi_I, hvr_I, hvl_I, hsz_I, hty_R, hvi_R, hvr_R, hvl_R, hsz_R, hty_L, hvi_L, hvr_L, hvl_L, hsz_L, hty_P, hvi_P, hvr_P, hvl_P, hsz_P, hty_C, hvi_C, hvr_C, hvl_C, hsz_C, x2, show ¬ c = c + 5 + 1 by omega]
  have y3 : hvr (hsetI (hsetR h (c + 5 + 1) n (some b)) (c + 5) 1 ((cnt T 48 : Int) + 1)) c 0 = some (c + 1) := by simp [hty_I, hvi_I, hvr_I, hvl_I, hsz_I, hty_R, hvi_R, hvr_R, hvl_R, hsz_R, hty_L, hvi_L, hvr_L, hvl_L, hsz_L, hty_P, hvi_P, hvr_P, hvl_P, hsz_P, hty_C, hvi_C, hvr_C, hvl_C, hsz_C, x3, show ¬ c = c + 5 + 1 by omega]
  have y4 : hty (hsetI (hsetR h (c + 5 + 1) n (some b)) (c + 5) 1 ((cnt T 48 : Int) + 1)) (c + 1) = some (4, 5) := h2.1.1
  have hq0 : ex (fun x => hty h x = none ∨ nS h x) h (hsetI (hsetR h (c + 5 + 1) n (some b)) (c + 5) 1 ((cnt T 48 : Int) + 1)) := ex_mono (fun x _ z => Or.inr z) (ex_ch qq)
  generalize hsetI (hsetR h (c + 5 + 1) n (some b)) (c + 5) 1 ((cnt T 48 : Int) + 1) = g at *
  have hn0 : ¬ (n : Int) < 0 := by omega
  have hT1d : ud T n (some v) di = some vd := by rw [ud_n hdn]; exact hTd
  have hTU := c_tieUp (G := G) (d := d) (C := kC G d 88 36 [some (.inr (.inl (some c))), some (.inr (.inl (some b))), some (.inl (di : Int)), some (.inl (k : Int)), some (.inl (n : Int))] [] 0 0 C (fun _ _ => False)) (kk := 0) (pc := 0) (nx := 0) (j := 0) (st := []) H hq0 f1 HT1 hTI hdi hn hdn hT1d ud_s v2 hkd hEd hnm (by omega) (wf_mk h10 hn hTd hkd hTn hnm hl hEd v1 v2 v2b v3 hb.2.2.2.2.2.2.2.2.2.2.2.2.1 v9 v10 v11) (by omega) (fun h' q => by
    have hz := hC h' q
    (repeat' (first | with_reducible assumption | (refine And.intro ?_ ?_) | (with_reducible intro _) | (simp [wp_eq, wpE, mk_X10_settle, mg, mc_X10_settle, lget, lset, popN, cats, rcv, entL, isArr, kC_s, kC_n, st1, st2, st3, st4, st5, st6, st7, st8, st9, st10, st11, st12, st13, st14, st15, st16, st17, st18, st19, st20, st21, st22, st23, st24, st25, st26, st27, st28, st29, st30, st31, st32, st33, st34, st35, st36, st37, st38, st39, st40, st41, st42, st43, st44, st45, st46, st47, st48, st49, st50, st51, st52, st53, st54, st55, st56, st57, st58, st59, st60, st61, st62, st63, st64, st65, st66, st67, st68, st69, st70, st71, st72, st73, st74, st75, st76, st77, st78, st79, st80, st81, st82, st83, st84, st85, st86, st87, st88, st89, st90, st91]))) <;> (try (first | omega | exact hz)))
  obtain ⟨hLI, hTU⟩ := hTU
  (repeat' (first | with_reducible assumption | (refine c_lastStep (by omega) hLI (by omega) f1 ?_) | (refine And.intro ?_ ?_) | (with_reducible intro _) | (simp [wp_eq, wpE, mk_X10_settle, mg, mc_X10_settle, lget, lset, popN, cats, rcv, entL, isArr, kC_s, kC_n, st1, st2, st3, st4, st5, st6, st7, st8, st9, st10, st11, st12, st13, st14, st15, st16, st17, st18, st19, st20, st21, st22, st23, st24, st25, st26, st27, st28, st29, st30, st31, st32, st33, st34, st35, st36, st37, st38, st39, st40, st41, st42, st43, st44, st45, st46, st47, st48, st49, st50, st51, st52, st53, st54, st55, st56, st57, st58, st59, st60, st61, st62, st63, st64, st65, st66, st67, st68, st69, st70, st71, st72, st73, st74, st75, st76, st77, st78, st79, st80, st81, st82, st83, st84, st85, st86, st87, st88, st89, st90, st91, y1, y2, y3, y4, hd0, hn0]))) <;> (try (first | omega | exact hz))
  all_goals
    rename_i h' z1 z2
    obtain ⟨w1, w2⟩ := hTU h' z1 z2
    have u1 : hty h' c = some (10, 7) := by rw [z1]; simp [hty_I, hvi_I, hvr_I, hvl_I, hsz_I, hty_R, hvi_R, hvr_R, hvl_R, hsz_R, hty_L, hvi_L, hvr_L, hvl_L, hsz_L, hty_P, hvi_P, hvr_P, hvl_P, hsz_P, hty_C, hvi_C, hvr_C, hvl_C, hsz_C, y1]; exact fun q => by have := fsh_lt f1 y1; omega
    have u2 : hvr h' c 1 = some (c + 5) := by rw [z1]; simp [hty_I, hvi_I, hvr_I, hvl_I, hsz_I, hty_R, hvi_R, hvr_R, hvl_R, hsz_R, hty_L, hvi_L, hvr_L, hvl_L, hsz_L, hty_P, hvi_P, hvr_P, hvl_P, hsz_P, hty_C, hvi_C, hvr_C, hvl_C, hsz_C, y2]; exact fun q => by have := fsh_lt f1 y1; omega
    (repeat' (first | with_reducible assumption | (refine w2 _) | (refine And.intro ?_ ?_) | (with_reducible intro _) | (simp [wp_eq, wpE, mk_X10_settle, mg, mc_X10_settle, lget, lset, popN, cats, rcv, entL, isArr, kC_s, kC_n, st1, st2, st3, st4, st5, st6, st7, st8, st9, st10, st11, st12, st13, st14, st15, st16, st17, st18, st19, st20, st21, st22, st23, st24, st25, st26, st27, st28, st29, st30, st31, st32, st33, st34, st35, st36, st37, st38, st39, st40, st41, st42, st43, st44, st45, st46, st47, st48, st49, st50, st51, st52, st53, st54, st55, st56, st57, st58, st59, st60, st61, st62, st63, st64, st65, st66, st67, st68, st69, st70, st71, st72, st73, st74, st75, st76, st77, st78, st79, st80, st81, st82, st83, st84, st85, st86, st87, st88, st89, st90, st91, u1, u2, w1, hd0]))) <;> (try (first | omega | exact hz))
def mkR (T : aT) (here : Nat) (L : List Int) (k : Nat) : Int := if npl T here L k true < 0 then npl T here L k true else (frF T 48 : Int)
def mkT (T : aT) (here : Nat) (L : List Int) (k : Nat) (v : aN) : aT := if npl T here L k true < 0 then T else jnT (ud T (frF T 48) (some v)) (npl T here L k true).toNat (nmL L k) (frF T 48) v
def mkV (dir : Bool) (Z D : Int) : aN := (((if dir then 0 else 1), (if dir then 0 else Z), D), ((if dir then 7 else 0), 0, 0), [], [])
theorem new_node {c a n : Nat} {h h' : mH} {L : List Int} {T : aT} {here : Nat} {O : List Int} {cp bad : Int} (H : CS c h L T here O cp bad) (ha : a = hsz h) (q : ex (fun x => x = a) (hpush h 5 10) h') (hf : fsh h') : CS c h' L T here O cp bad ∧ ∀ m, m < 48 → ¬ hvr h' (c + 5 + 1) m = some a := by
  have hf0 := H.2.2.2.2.2.2.2.2.1
  have hna : hty h a = none := hf0 a (by omega)
  have q1 : ex (fun x => x = a) h h' := ex_trans (ex_push hf0) q
  refine ⟨CS_fr H q1 (fun x hx => by subst hx; exact hna) hf, fun m hm hx => ?_⟩
  have h3 := H.2.2.1
  rw [((q1.2 (c + 5 + 1) (by rw [h3.2.2.1]; simp)).2 (fun z => by have := h3.2.2.1; rw [z, hna] at this; cases this) _).1] at hx
  have := TR_na h3 hm hx
  rw [hna] at this; cases this
theorem p_make {G : Nat → Nat} {d c : Nat} {h : mH} {C : mQ} {X : mX} {L : List Int} {T : aT} {here : Nat} {O : List Int} {cp bad Z D : Int} {dir : Bool} (hd : 9 ≤ d) (H : CS c h L T here O cp bad)
    (hX : ¬ ((0 ≤ Z ∧ Z ≤ 999999) ∧ (0 ≤ D ∧ D ≤ 999999)) → ∀ y, hsz h ≤ y → X 1 (hgrow h y))
    (hC : ((0 ≤ Z ∧ Z ≤ 999999) ∧ (0 ≤ D ∧ D ≤ 999999)) → ∀ h', CS c h' L (mkT T here L 0 (mkV dir Z D)) here O cp bad → C (some (.inl (mkR T here L 0))) h') :
    callG (wp G) d 72 9 352 6 [.inr (.inl (some c)), .inl (b01 dir), .inl Z, .inl D] h C X := by
  have x1 : hty h c = some (10, 7) := H.1.1 (0, 10, 7) (by decide)
  have hw := H.2.2.2.2.2.2.2.2.2
  refine ⟨C, X, ?_, fun _ _ q => q, fun _ _ q => q⟩
  obtain ⟨d, rfl⟩ : ∃ d', d = d' + 1 := ⟨d - 1, by omega⟩
  rw [Nat.add_sub_cancel]
  have hd0 : (0 < d) = True := eq_true (by omega)
  by_cases hb : (0 ≤ Z ∧ Z ≤ 999999) ∧ (0 ≤ D ∧ D ≤ 999999)
  · have hC := hC hb
    have z1 : (if 0 ≤ Z ∧ Z ≤ 999999 then (0 : Int) else 1) = 0 := if_pos hb.1
    have z2 : (if 0 ≤ D ∧ D ≤ 999999 then (0 : Int) else 1) = 0 := if_pos hb.2
    (repeat' (first | with_reducible assumption | (refine c_oob ?_) | (refine And.intro ?_ ?_) | (with_reducible intro _) | (simp [wp_eq, wpE, mk_X10_make, mg, mc_X10_make, lget, lset, popN, cats, rcv, entL, isArr, kC_s, kC_n, st1, st2, st3, st4, st5, st6, st7, st8, st9, st10, st11, st12, st13, st14, st15, st16, st17, st18, st19, st20, st21, st22, st23, st24, st25, st26, st27, st28, st29, st30, st31, st32, st33, st34, st35, st36, st37, st38, st39, st40, st41, st42, st43, st44, st45, st46, st47, st48, st49, st50, st51, st52, st53, st54, st55, st56, st57, st58, st59, st60, st61, st62, st63, st64, st65, st66, st67, st68, st69, st70, st71, st72, st73, st74, st75, st76, st77, st78, st79, st80, st81, st82, st83, st84, st85, st86, st87, st88, st89, st90, st91, x1, hd0, z1, z2]))) <;> (try (first | omega | exact hz))
    refine c_newPlace (k := 0) (fn := true) (by omega) H (fun h1 H1 => ?_)
    unfold mkR mkT at hC
    rcases npl_ok (L := L) (k := 0) (fn := true) hw with hn | ⟨di, vd, e1, e2, e3, e4, e5, e6, e7, e8, e9⟩
    · simp only [hn, if_true] at hC
      have hz := hC h1 H1
      (repeat' (first | with_reducible assumption | (refine And.intro ?_ ?_) | (with_reducible intro _) | (simp [wp_eq, wpE, mk_X10_make, mg, mc_X10_make, lget, lset, popN, cats, rcv, entL, isArr, kC_s, kC_n, st1, st2, st3, st4, st5, st6, st7, st8, st9, st10, st11, st12, st13, st14, st15, st16, st17, st18, st19, st20, st21, st22, st23, st24, st25, st26, st27, st28, st29, st30, st31, st32, st33, st34, st35, st36, st37, st38, st39, st40, st41, st42, st43, st44, st45, st46, st47, st48, st49, st50, st51, st52, st53, st54, st55, st56, st57, st58, st59, st60, st61, st62, st63, st64, st65, st66, st67, st68, st69, st70, st71, st72, st73, st74, st75, st76, st77, st78, st79, st80, st81, st82, st83, st84, st85, st86, st87, st88, st89, st90, st91, hn]))) <;> (try (first | omega | exact hz))
    · rw [e1] at hC ⊢
      simp only [show ¬ (di : Int) < 0 by omega, if_false, Int.toNat_natCast] at hC
      have y1 : hty h1 c = some (10, 7) := H1.1.1 (0, 10, 7) (by decide)
      have hdi : ¬ (di : Int) < 0 := by omega
      have f1 := H1.2.2.2.2.2.2.2.2.1
      have lc := fsh_lt f1 y1
      cases dir
      · (repeat' (first | with_reducible assumption | (refine c_Ninit (a := hsz h1) (n := 0) (by omega) (by simp [hty_I, hvi_I, hvr_I, hvl_I, hsz_I, hty_R, hvi_R, hvr_R, hvl_R, hsz_R, hty_L, hvi_L, hvr_L, hvl_L, hsz_L, hty_P, hvi_P, hvr_P, hvl_P, hsz_P, hty_C, hvi_C, hvr_C, hvl_C, hsz_C]) (by simp [hty_I, hvi_I, hvr_I, hvl_I, hsz_I, hty_R, hvi_R, hvr_R, hvl_R, hsz_R, hty_L, hvi_L, hvr_L, hvl_L, hsz_L, hty_P, hvi_P, hvr_P, hvl_P, hsz_P, hty_C, hvi_C, hvr_C, hvl_C, hsz_C]) (fsh_push f1) (by simp [hty_I, hvi_I, hvr_I, hvl_I, hsz_I, hty_R, hvi_R, hvr_R, hvl_R, hsz_R, hty_L, hvi_L, hvr_L, hvl_L, hsz_L, hty_P, hvi_P, hvr_P, hvl_P, hsz_P, hty_C, hvi_C, hvr_C, hvl_C, hsz_C]) (by simp [hty_I, hvi_I, hvr_I, hvl_I, hsz_I, hty_R, hvi_R, hvr_R, hvl_R, hsz_R, hty_L, hvi_L, hvr_L, hvl_L, hsz_L, hty_P, hvi_P, hvr_P, hvl_P, hsz_P, hty_C, hvi_C, hvr_C, hvl_C, hsz_C]) (by simp [hty_I, hvi_I, hvr_I, hvl_I, hsz_I, hty_R, hvi_R, hvr_R, hvl_R, hsz_R, hty_L, hvi_L, hvr_L, hvl_L, hsz_L, hty_P, hvi_P, hvr_P, hvl_P, hsz_P, hty_C, hvi_C, hvr_C, hvl_C, hsz_C]) ?_) | (refine And.intro ?_ ?_) | (with_reducible intro _) | (simp [wp_eq, wpE, mk_X10_make, mg, mc_X10_make, lget, lset, popN, cats, rcv, entL, isArr, kC_s, kC_n, st1, st2, st3, st4, st5, st6, st7, st8, st9, st10, st11, st12, st13, st14, st15, st16, st17, st18, st19, st20, st21, st22, st23, st24, st25, st26, st27, st28, st29, st30, st31, st32, st33, st34, st35, st36, st37, st38, st39, st40, st41, st42, st43, st44, st45, st46, st47, st48, st49, st50, st51, st52, st53, st54, st55, st56, st57, st58, st59, st60, st61, st62, st63, st64, st65, st66, st67, st68, st69, st70, st71, st72, st73, st74, st75, st76, st77, st78, st79, st80, st81, st82, st83, st84, st85, st86, st87, st88, st89, st90, st91, hdi, hd0, b01, hty_P]))) <;> (try (first | omega | exact hz))
        all_goals
          rename_i h2 p1 p2 p3 p4 p5
          obtain ⟨H2, hnb⟩ := new_node (n := 0) H1 rfl p1 p3
          have y2 : hty h2 c = some (10, 7) := H2.1.1 (0, 10, 7) (by decide)
          (repeat' (first | with_reducible assumption | (refine c_settle (k := 0) (vd := vd) (by omega) H2 p4 hnb (e9 rfl) e5 e6 e7 e8 e3 e4 (by simp [nK]) rfl (fun _ => rfl) (by simp [nK, nX]) (by simp [nB]) (by simp [nZ, nD]; omega) rfl ?_) | (refine And.intro ?_ ?_) | (with_reducible intro _) | (simp [wp_eq, wpE, mk_X10_make, mg, mc_X10_make, lget, lset, popN, cats, rcv, entL, isArr, kC_s, kC_n, st1, st2, st3, st4, st5, st6, st7, st8, st9, st10, st11, st12, st13, st14, st15, st16, st17, st18, st19, st20, st21, st22, st23, st24, st25, st26, st27, st28, st29, st30, st31, st32, st33, st34, st35, st36, st37, st38, st39, st40, st41, st42, st43, st44, st45, st46, st47, st48, st49, st50, st51, st52, st53, st54, st55, st56, st57, st58, st59, st60, st61, st62, st63, st64, st65, st66, st67, st68, st69, st70, st71, st72, st73, st74, st75, st76, st77, st78, st79, st80, st81, st82, st83, st84, st85, st86, st87, st88, st89, st90, st91, y2, hd0]))) <;> (try (first | omega | exact hz))
          all_goals
            rename_i h3 H3
            exact hC h3 H3
      · (repeat' (first | with_reducible assumption | (refine c_Ninit (a := hsz h1) (n := 0) (by omega) (by simp [hty_I, hvi_I, hvr_I, hvl_I, hsz_I, hty_R, hvi_R, hvr_R, hvl_R, hsz_R, hty_L, hvi_L, hvr_L, hvl_L, hsz_L, hty_P, hvi_P, hvr_P, hvl_P, hsz_P, hty_C, hvi_C, hvr_C, hvl_C, hsz_C]) (by simp [hty_I, hvi_I, hvr_I, hvl_I, hsz_I, hty_R, hvi_R, hvr_R, hvl_R, hsz_R, hty_L, hvi_L, hvr_L, hvl_L, hsz_L, hty_P, hvi_P, hvr_P, hvl_P, hsz_P, hty_C, hvi_C, hvr_C, hvl_C, hsz_C]) (fsh_push f1) (by simp [hty_I, hvi_I, hvr_I, hvl_I, hsz_I, hty_R, hvi_R, hvr_R, hvl_R, hsz_R, hty_L, hvi_L, hvr_L, hvl_L, hsz_L, hty_P, hvi_P, hvr_P, hvl_P, hsz_P, hty_C, hvi_C, hvr_C, hvl_C, hsz_C]) (by simp [hty_I, hvi_I, hvr_I, hvl_I, hsz_I, hty_R, hvi_R, hvr_R, hvl_R, hsz_R, hty_L, hvi_L, hvr_L, hvl_L, hsz_L, hty_P, hvi_P, hvr_P, hvl_P, hsz_P, hty_C, hvi_C, hvr_C, hvl_C, hsz_C]) (by simp [hty_I, hvi_I, hvr_I, hvl_I, hsz_I, hty_R, hvi_R, hvr_R, hvl_R, hsz_R, hty_L, hvi_L, hvr_L, hvl_L, hsz_L, hty_P, hvi_P, hvr_P, hvl_P, hsz_P, hty_C, hvi_C, hvr_C, hvl_C, hsz_C]) ?_) | (refine And.intro ?_ ?_) | (with_reducible intro _) | (simp [wp_eq, wpE, mk_X10_make, mg, mc_X10_make, lget, lset, popN, cats, rcv, entL, isArr, kC_s, kC_n, st1, st2, st3, st4, st5, st6, st7, st8, st9, st10, st11, st12, st13, st14, st15, st16, st17, st18, st19, st20, st21, st22, st23, st24, st25, st26, st27, st28, st29, st30, st31, st32, st33, st34, st35, st36, st37, st38, st39, st40, st41, st42, st43, st44, st45, st46, st47, st48, st49, st50, st51, st52, st53, st54, st55, st56, st57, st58, st59, st60, st61, st62, st63, st64, st65, st66, st67, st68, st69, st70, st71, st72, st73, st74, st75, st76, st77, st78, st79, st80, st81, st82, st83, st84, st85, st86, st87, st88, st89, st90, st91, hdi, hd0, b01, hty_P]))) <;> (try (first | omega | exact hz))
        all_goals
          rename_i h2 p1 p2 p3 p4 p5
          obtain ⟨H2, hnb⟩ := new_node (n := 0) H1 rfl p1 p3
          have y2 : hty h2 c = some (10, 7) := H2.1.1 (0, 10, 7) (by decide)
          (repeat' (first | with_reducible assumption | (refine c_settle (k := 0) (vd := vd) (by omega) H2 p4 hnb (e9 rfl) e5 e6 e7 e8 e3 e4 (by simp [nK]) rfl (fun q => absurd rfl q) (by simp [nK, nX]) (by simp [nB]) (by simp [nZ, nD]; omega) rfl ?_) | (refine And.intro ?_ ?_) | (with_reducible intro _) | (simp [wp_eq, wpE, mk_X10_make, mg, mc_X10_make, lget, lset, popN, cats, rcv, entL, isArr, kC_s, kC_n, st1, st2, st3, st4, st5, st6, st7, st8, st9, st10, st11, st12, st13, st14, st15, st16, st17, st18, st19, st20, st21, st22, st23, st24, st25, st26, st27, st28, st29, st30, st31, st32, st33, st34, st35, st36, st37, st38, st39, st40, st41, st42, st43, st44, st45, st46, st47, st48, st49, st50, st51, st52, st53, st54, st55, st56, st57, st58, st59, st60, st61, st62, st63, st64, st65, st66, st67, st68, st69, st70, st71, st72, st73, st74, st75, st76, st77, st78, st79, st80, st81, st82, st83, st84, st85, st86, st87, st88, st89, st90, st91, y2, hd0]))) <;> (try (first | omega | exact hz))
          all_goals
            rename_i h3 H3
            exact hC h3 H3
  · have hz := hX hb
    by_cases hb1 : 0 ≤ Z ∧ Z ≤ 999999
    · have z1 : (if 0 ≤ Z ∧ Z ≤ 999999 then (0 : Int) else 1) = 0 := if_pos hb1
      have z2 : (if 0 ≤ D ∧ D ≤ 999999 then (0 : Int) else 1) = 1 := if_neg (fun q => hb ⟨hb1, q⟩)
      (repeat' (first | with_reducible assumption | (refine c_oob ?_) | (refine And.intro ?_ ?_) | (with_reducible intro _) | (simp [wp_eq, wpE, mk_X10_make, mg, mc_X10_make, lget, lset, popN, cats, rcv, entL, isArr, kC_s, kC_n, st1, st2, st3, st4, st5, st6, st7, st8, st9, st10, st11, st12, st13, st14, st15, st16, st17, st18, st19, st20, st21, st22, st23, st24, st25, st26, st27, st28, st29, st30, st31, st32, st33, st34, st35, st36, st37, st38, st39, st40, st41, st42, st43, st44, st45, st46, st47, st48, st49, st50, st51, st52, st53, st54, st55, st56, st57, st58, st59, st60, st61, st62, st63, st64, st65, st66, st67, st68, st69, st70, st71, st72, st73, st74, st75, st76, st77, st78, st79, st80, st81, st82, st83, st84, st85, st86, st87, st88, st89, st90, st91, x1, hd0, z1, z2]))) <;> (try (first | omega | exact hz))
    · have z1 : (if 0 ≤ Z ∧ Z ≤ 999999 then (0 : Int) else 1) = 1 := if_neg hb1
      (repeat' (first | with_reducible assumption | (refine c_oob ?_) | (refine And.intro ?_ ?_) | (with_reducible intro _) | (simp [wp_eq, wpE, mk_X10_make, mg, mc_X10_make, lget, lset, popN, cats, rcv, entL, isArr, kC_s, kC_n, st1, st2, st3, st4, st5, st6, st7, st8, st9, st10, st11, st12, st13, st14, st15, st16, st17, st18, st19, st20, st21, st22, st23, st24, st25, st26, st27, st28, st29, st30, st31, st32, st33, st34, st35, st36, st37, st38, st39, st40, st41, st42, st43, st44, st45, st46, st47, st48, st49, st50, st51, st52, st53, st54, st55, st56, st57, st58, st59, st60, st61, st62, st63, st64, st65, st66, st67, st68, st69, st70, st71, st72, st73, st74, st75, st76, st77, st78, st79, st80, st81, st82, st83, st84, st85, st86, st87, st88, st89, st90, st91, x1, hd0, z1]))) <;> (try (first | omega | exact hz))
theorem ND_text {h : mH} {a b o : Nat} {K Z D B : Int} {w : List Int} {N : Nat} (H : ND h a ((K, Z, D), (B, 0, 0), List.replicate w.length 0, [])) (bw : bd w) (hr : ro h b o w) (hba : ¬ b = a + 1) : ND (hcpy h b o (a + 1) 0 w.length) a ((K, Z, D), (B, 0, 0), w, []) := by
  obtain ⟨v1, v2, v3, v4, v5, v6, v7, v8, v9, v10, v11, v12, v13, v14, v15, v16⟩ := H
  have hl : ∀ j, hvi (hcpy h b o (a + 1) 0 w.length) a j = hvi h a j := fun j => by rw [hvi_C, if_neg (by omega)]
  refine ⟨v1, by rw [hl]; exact v2, by rw [hl]; exact v3, by rw [hl]; exact v4, v5, v6, by rw [hl]; exact v7, by rw [hl]; exact v8, by rw [hl]; exact v9, by rw [hl]; exact v10, ?_, fun i hi => ?_, ⟨bw, ?_⟩, v14, v15, fun k p hk => by simp [nE] at hk⟩
  · have : hty h (a + 1) = some (21, w.length) := by simpa [nX] using v11
    exact this
  · have hi : i < w.length := hi
    rw [hvi_C, if_pos (by omega), show o + (0 + i - 0) = o + i by omega]; exact hr i hi
  · simpa [nX] using v13.2
def lkL (L : List Int) : Bool := decide (40 < (wd L 0).length)
def lkV (L : List Int) (D : Int) : aN := ((2, ((wd L 0).length : Int), D), (0, 0, 0), wd L 0, [])
def lkR (T : aT) (here : Nat) (L : List Int) : Int := if 40 < (wd L 0).length then -9 else mkR T here L 1
def lkT (T : aT) (here : Nat) (L : List Int) (D : Int) : aT := if 40 < (wd L 0).length then T else mkT T here L 1 (lkV L D)
theorem p_link {G : Nat → Nat} {d c : Nat} {h : mH} {C : mQ} {X : mX} {L : List Int} {T : aT} {here : Nat} {O : List Int} {cp bad D : Int} (hd : 9 ≤ d) (H : CS c h L T here O cp bad)
    (hX : ¬ (0 ≤ D ∧ D ≤ 999999) → ∀ y, hsz h ≤ y → X 1 (hgrow h y))
    (hC : (0 ≤ D ∧ D ≤ 999999) → ∀ h', CS c h' L (lkT T here L D) here O cp bad → C (some (.inl (lkR T here L))) h') :
    callG (wp G) d 73 6 230 5 [.inr (.inl (some c)), .inl D] h C X := by
  have x1 : hty h c = some (10, 7) := H.1.1 (0, 10, 7) (by decide)
  have x2 : hvr h c 0 = some (c + 1) := H.1.2 (0, 0, 1) (by decide)
  have a1 := H.2.1.1.1
  have hw := H.2.2.2.2.2.2.2.2.2
  refine ⟨C, X, ?_, fun _ _ q => q, fun _ _ q => q⟩
  obtain ⟨d, rfl⟩ : ∃ d', d = d' + 1 := ⟨d - 1, by omega⟩
  rw [Nat.add_sub_cancel]
  have hd0 : (0 < d) = True := eq_true (by omega)
  by_cases hb : 0 ≤ D ∧ D ≤ 999999
  · have hC := hC hb
    have z2 : (if 0 ≤ D ∧ D ≤ 999999 then (0 : Int) else 1) = 0 := if_pos hb
    unfold lkR lkT mkR mkT at hC
    by_cases h40 : 40 < (wd L 0).length
    · simp only [h40, if_true] at hC
      have hz := hC h H
      have h40' : ¬ (wd L 0).length ≤ 40 := by omega
      (repeat' (first | with_reducible assumption | (refine c_oob ?_) | (refine c_wordLength (k := 0) (by omega) H.2.1 ?_) | (refine And.intro ?_ ?_) | (with_reducible intro _) | (simp [wp_eq, wpE, mk_X10_link, mg, mc_X10_link, lget, lset, popN, cats, rcv, entL, isArr, kC_s, kC_n, st1, st2, st3, st4, st5, st6, st7, st8, st9, st10, st11, st12, st13, st14, st15, st16, st17, st18, st19, st20, st21, st22, st23, st24, st25, st26, st27, st28, st29, st30, st31, st32, st33, st34, st35, st36, st37, st38, st39, st40, st41, st42, st43, st44, st45, st46, st47, st48, st49, st50, st51, st52, st53, st54, st55, st56, st57, st58, st59, st60, st61, st62, st63, st64, st65, st66, st67, st68, st69, st70, st71, st72, st73, st74, st75, st76, st77, st78, st79, st80, st81, st82, st83, st84, st85, st86, st87, st88, st89, st90, st91, x1, x2, a1, hd0, z2, h40, h40']))) <;> (try (first | omega | exact hz))
    · simp only [h40, if_false] at hC
      have h40' : (wd L 0).length ≤ 40 := by omega
      (repeat' (first | with_reducible assumption | (refine c_oob ?_) | (refine c_wordLength (k := 0) (by omega) H.2.1 ?_) | (refine And.intro ?_ ?_) | (with_reducible intro _) | (simp [wp_eq, wpE, mk_X10_link, mg, mc_X10_link, lget, lset, popN, cats, rcv, entL, isArr, kC_s, kC_n, st1, st2, st3, st4, st5, st6, st7, st8, st9, st10, st11, st12, st13, st14, st15, st16, st17, st18, st19, st20, st21, st22, st23, st24, st25, st26, st27, st28, st29, st30, st31, st32, st33, st34, st35, st36, st37, st38, st39, st40, st41, st42, st43, st44, st45, st46, st47, st48, st49, st50, st51, st52, st53, st54, st55, st56, st57, st58, st59, st60, st61, st62, st63, st64, st65, st66, st67, st68, st69, st70, st71, st72, st73, st74, st75, st76, st77, st78, st79, st80, st81, st82, st83, st84, st85, st86, st87, st88, st89, st90, st91, x1, x2, a1, hd0, z2, h40, h40']))) <;> (try (first | omega | exact hz))
      refine c_newPlace (k := 1) (fn := true) (by omega) H (fun h1 H1 => ?_)
      rcases npl_ok (L := L) (k := 1) (fn := true) hw with hn | ⟨di, vd, e1, e2, e3, e4, e5, e6, e7, e8, e9⟩
      · simp only [hn, if_true] at hC
        have hz := hC h1 H1
        (repeat' (first | with_reducible assumption | (refine And.intro ?_ ?_) | (with_reducible intro _) | (simp [wp_eq, wpE, mk_X10_link, mg, mc_X10_link, lget, lset, popN, cats, rcv, entL, isArr, kC_s, kC_n, st1, st2, st3, st4, st5, st6, st7, st8, st9, st10, st11, st12, st13, st14, st15, st16, st17, st18, st19, st20, st21, st22, st23, st24, st25, st26, st27, st28, st29, st30, st31, st32, st33, st34, st35, st36, st37, st38, st39, st40, st41, st42, st43, st44, st45, st46, st47, st48, st49, st50, st51, st52, st53, st54, st55, st56, st57, st58, st59, st60, st61, st62, st63, st64, st65, st66, st67, st68, st69, st70, st71, st72, st73, st74, st75, st76, st77, st78, st79, st80, st81, st82, st83, st84, st85, st86, st87, st88, st89, st90, st91, hn]))) <;> (try (first | omega | exact hz))
      · rw [e1] at hC ⊢
        simp only [show ¬ (di : Int) < 0 by omega, if_false, Int.toNat_natCast] at hC
        have y1 : hty h1 c = some (10, 7) := H1.1.1 (0, 10, 7) (by decide)
        have hdi : ¬ (di : Int) < 0 := by omega
        have f1 := H1.2.2.2.2.2.2.2.2.1
        have hat := wds_at (L := L) (k := 0) (by omega)
        have hwl := wd_len L 0
        have hbL := H.2.1.2.2
        have bL := H.2.1.2.1.1
        (repeat' (first | with_reducible assumption | (refine c_Ninit (a := hsz h1) (n := (wd L 0).length) (by omega) (by simp [hty_I, hvi_I, hvr_I, hvl_I, hsz_I, hty_R, hvi_R, hvr_R, hvl_R, hsz_R, hty_L, hvi_L, hvr_L, hvl_L, hsz_L, hty_P, hvi_P, hvr_P, hvl_P, hsz_P, hty_C, hvi_C, hvr_C, hvl_C, hsz_C]) (by simp [hty_I, hvi_I, hvr_I, hvl_I, hsz_I, hty_R, hvi_R, hvr_R, hvl_R, hsz_R, hty_L, hvi_L, hvr_L, hvl_L, hsz_L, hty_P, hvi_P, hvr_P, hvl_P, hsz_P, hty_C, hvi_C, hvr_C, hvl_C, hsz_C]) (fsh_push f1) (by simp [hty_I, hvi_I, hvr_I, hvl_I, hsz_I, hty_R, hvi_R, hvr_R, hvl_R, hsz_R, hty_L, hvi_L, hvr_L, hvl_L, hsz_L, hty_P, hvi_P, hvr_P, hvl_P, hsz_P, hty_C, hvi_C, hvr_C, hvl_C, hsz_C]) (by simp [hty_I, hvi_I, hvr_I, hvl_I, hsz_I, hty_R, hvi_R, hvr_R, hvl_R, hsz_R, hty_L, hvi_L, hvr_L, hvl_L, hsz_L, hty_P, hvi_P, hvr_P, hvl_P, hsz_P, hty_C, hvi_C, hvr_C, hvl_C, hsz_C]) (by simp [hty_I, hvi_I, hvr_I, hvl_I, hsz_I, hty_R, hvi_R, hvr_R, hvl_R, hsz_R, hty_L, hvi_L, hvr_L, hvl_L, hsz_L, hty_P, hvi_P, hvr_P, hvl_P, hsz_P, hty_C, hvi_C, hvr_C, hvl_C, hsz_C]) ?_) | (refine And.intro ?_ ?_) | (with_reducible intro _) | (simp [wp_eq, wpE, mk_X10_link, mg, mc_X10_link, lget, lset, popN, cats, rcv, entL, isArr, kC_s, kC_n, st1, st2, st3, st4, st5, st6, st7, st8, st9, st10, st11, st12, st13, st14, st15, st16, st17, st18, st19, st20, st21, st22, st23, st24, st25, st26, st27, st28, st29, st30, st31, st32, st33, st34, st35, st36, st37, st38, st39, st40, st41, st42, st43, st44, st45, st46, st47, st48, st49, st50, st51, st52, st53, st54, st55, st56, st57, st58, st59, st60, st61, st62, st63, st64, st65, st66, st67, st68, st69, st70, st71, st72, st73, st74, st75, st76, st77, st78, st79, st80, st81, st82, st83, st84, st85, st86, st87, st88, st89, st90, st91, hdi, hd0, hty_P]))) <;> (try (first | omega | exact hz))
        all_goals
          rename_i h2 p1 p2 p3 p4 p5
          obtain ⟨H2, hnb⟩ := new_node (n := 0) H1 rfl p1 p3
          have y2 : hty h2 c = some (10, 7) := H2.1.1 (0, 10, 7) (by decide)
          have y3 : hvr h2 c 0 = some (c + 1) := H2.1.2 (0, 0, 1) (by decide)
          have y4 := H2.2.1.1.1
          have y5 := H2.2.1.1.2.1
          have y6 := H2.2.1.1.2.2.2.2.1
          have n1 := p4.1
          have n2 := p4.2.2.2.2.1
          have n3 : hty h2 (hsz h1 + 1) = some (21, (wd L 0).length) := by have := p4.2.2.2.2.2.2.2.2.2.2.1; simpa [nX] using this
          have hro : ro h2 (c + 1 + 1) (wS L 0) (wd L 0) := fun i hi => by rw [wd_get (by omega)]; exact H2.2.1.2.1.2.2.1 _ (by omega)
          have lc1 : c + 1 + 1 < hsz h1 := fsh_lt f1 H1.2.1.1.2.2.2.2.1
          have hND : ND (hcpy h2 (c + 1 + 1) (wS L 0) (hsz h1 + 1) 0 (wd L 0).length) (hsz h1) (lkV L D) := ND_text (N := 0) p4 (wd_b hbL 0) hro (by omega)
          have qc : ch (fun x => x = hsz h1 + 1) h2 (hcpy h2 (c + 1 + 1) (wS L 0) (hsz h1 + 1) 0 (wd L 0).length) := ch_C rfl
          have H3 : CS c (hcpy h2 (c + 1 + 1) (wS L 0) (hsz h1 + 1) 0 (wd L 0).length) L T here O cp bad := by
            have hna1 : hty h1 (hsz h1 + 1) = none := f1 _ (by omega)
            have q12 : ex (fun x => hty h1 x = none) h1 h2 := ex_trans (ex_push f1) (ex_mono (fun x _ z => by rw [z]; exact f1 _ (Nat.le_refl _)) p1)
            exact CS_fr H1 (ex_trans q12 (ex_mono (fun x _ z => by rw [z]; exact hna1) (ex_ch qc))) (fun x z => z) (fsh_ch qc p3)
          have z1 : hty (hcpy h2 (c + 1 + 1) (wS L 0) (hsz h1 + 1) 0 (wd L 0).length) c = some (10, 7) := y2
          (repeat' (first | with_reducible assumption | (refine c_start (k := 0) H2.2.1 ?_) | (refine c_settle (k := 1) (vd := vd) (by omega) H3 hND hnb (e9 rfl) e5 e6 e7 e8 e3 e4 (by simp [nK, lkV]) rfl (fun _ => rfl) ⟨fun _ q => (by have q : wd L 0 = [] := q; rw [q] at hwl; simp at hwl; omega), fun q => absurd rfl q⟩ (by simp [nB, lkV]) (by simp [nZ, nD, lkV]; omega) rfl ?_) | (refine And.intro ?_ ?_) | (with_reducible intro _) | (simp [wp_eq, wpE, mk_X10_link, mg, mc_X10_link, lget, lset, popN, cats, rcv, entL, isArr, kC_s, kC_n, st1, st2, st3, st4, st5, st6, st7, st8, st9, st10, st11, st12, st13, st14, st15, st16, st17, st18, st19, st20, st21, st22, st23, st24, st25, st26, st27, st28, st29, st30, st31, st32, st33, st34, st35, st36, st37, st38, st39, st40, st41, st42, st43, st44, st45, st46, st47, st48, st49, st50, st51, st52, st53, st54, st55, st56, st57, st58, st59, st60, st61, st62, st63, st64, st65, st66, st67, st68, st69, st70, st71, st72, st73, st74, st75, st76, st77, st78, st79, st80, st81, st82, st83, st84, st85, st86, st87, st88, st89, st90, st91, y2, y3, y4, y5, y6, n1, n2, n3, z1, hd0]))) <;> (try (first | omega | exact hz))
          all_goals
            rename_i h3 H3
            exact hC h3 H3
  · have hz := hX hb
    have z2 : (if 0 ≤ D ∧ D ≤ 999999 then (0 : Int) else 1) = 1 := if_neg hb
    (repeat' (first | with_reducible assumption | (refine c_oob ?_) | (refine And.intro ?_ ?_) | (with_reducible intro _) | (simp [wp_eq, wpE, mk_X10_link, mg, mc_X10_link, lget, lset, popN, cats, rcv, entL, isArr, kC_s, kC_n, st1, st2, st3, st4, st5, st6, st7, st8, st9, st10, st11, st12, st13, st14, st15, st16, st17, st18, st19, st20, st21, st22, st23, st24, st25, st26, st27, st28, st29, st30, st31, st32, st33, st34, st35, st36, st37, st38, st39, st40, st41, st42, st43, st44, st45, st46, st47, st48, st49, st50, st51, st52, st53, st54, st55, st56, st57, st58, st59, st60, st61, st62, st63, st64, st65, st66, st67, st68, st69, st70, st71, st72, st73, st74, st75, st76, st77, st78, st79, st80, st81, st82, st83, st84, st85, st86, st87, st88, st89, st90, st91, x1, hd0, z2]))) <;> (try (first | omega | exact hz))
