/-- where a way comes to, there is a node -/
theorem stp_live {T : aT} {here nd lk : Nat} {fol : Bool} {w : List Int} {q : Nat × Nat × aC × List Int} (h : wf T here) (hs : stp T fol nd lk w = .inr q) : ¬ T q.1 = none := by
  unfold stp at hs
  cases hT : T nd with
  | none => simp [tK, hT] at hs
  | some v =>
    have hnd := wf_lt h hT
    have hN := h.2.2.2.1 nd v hT
    split at hs
    · cases hs
    rename_i hk
    have hk0 : nK v = 0 := by rw [tK_some hT] at hk; simpa using hk
    split at hs
    · cases hs
    split at hs
    · cases hs; rw [hT]; simp
    split at hs
    · cases hs
      rw [tA_some hT]
      by_cases h0 : nd = 0
      · subst h0
        have := h.2.2.1.2; rw [tA_some hT] at this
        show ¬ T (nA v) = none
        rw [this, hT]; simp
      · obtain ⟨-, s, hm⟩ := hN.2.2.2.2.2.2.2.2.2.2.2 hk0 h0
        intro hz
        have hz : T (nA v) = none := hz
        simp [tE, hz] at hm
    split at hs
    · cases hs
    · rename_i n hn
      rw [tE_some hT] at hn
      split at hs
      · split at hs
        · cases hs
        · cases hs
          show ¬ T (if _ then 0 else nd) = none
          split
          · have := h.2.2.1.1
            obtain ⟨u, hu, -⟩ := tK_ge this
            rw [hu]; simp
          · rw [hT]; simp
      · cases hs
        exact (hN.2.2.2.2.2.2.1 _ (lkE_mem hn)).2.2
theorem wk_live {T : aT} {here : Nat} {fol : Bool} (h : wf T here) : ∀ (f nd lk : Nat) (cm : aC) (w : List Int) (n : Nat) (c : aC), ¬ T nd = none → wk T fol f nd lk cm w = ((n : Int), c) → ¬ T n = none := by
  intro f
  induction f with
  | zero => intro nd lk cm w n c _ hq; simp [wk] at hq
  | succ f ih =>
    intro nd lk cm w n c hnd hq
    simp only [wk] at hq
    split at hq
    · split at hq
      · cases hq
      · injection hq with h1 h2
        have : nd = n := by omega
        rw [← this]; exact hnd
    · cases hs : stp T fol nd lk (dsl w) with
      | inl z =>
        rw [hs] at hq
        have := stp_neg hs
        injection hq with h1 h2
        omega
      | inr q =>
        rw [hs] at hq
        exact ih q.1 q.2.1 q.2.2.1 q.2.2.2 n c (stp_live h hs) hq
theorem nwR_live {T : aT} {here n k : Nat} {L : List Int} {fol : Bool} (h : wf T here) (hq : (nwR T here L k fol).1 = (n : Int)) : ∃ v, T n = some v := by
  have : ¬ T n = none := by
    unfold nwR at hq
    split at hq
    · refine wk_live (fol := fol) h 421 _ 0 none (wd L k) n (wkR T fol here (wd L k)).2 ?_ (Prod.ext hq rfl)
      split
      · obtain ⟨u, hu, -⟩ := tK_ge h.2.2.1.1
        rw [hu]; simp
      · obtain ⟨u, hu, -⟩ := tK_ge h.2.1.2
        rw [hu]; simp
    · simp at hq
  cases hT : T n with
  | none => exact absurd hT this
  | some v => exact ⟨v, rfl⟩
def tiN (T : aT) (here : Nat) (L : List Int) : Int := (nwR T here L 0 false).1
def tiR (T : aT) (here : Nat) (L : List Int) : Int := if tiN T here L < 0 then tiN T here L else if tK T (tiN T here L).toNat = 0 then -11 else if npl T here L 1 false < 0 then npl T here L 1 false else tiN T here L
def tiT (T : aT) (here : Nat) (L : List Int) : aT := if tiN T here L < 0 then T else if tK T (tiN T here L).toNat = 0 then T else if npl T here L 1 false < 0 then T else jnT T (npl T here L 1 false).toNat (nmL L 1) (tiN T here L).toNat ((T (tiN T here L).toNat).getD ((0, 0, 0), (0, 0, 0), [], []))
theorem p_tie {G : Nat → Nat} {d c : Nat} {h : mH} {C : mQ} {X : mX} {L : List Int} {T : aT} {here : Nat} {O : List Int} {cp bad : Int} (hd : 9 ≤ d) (H : CS c h L T here O cp bad)
    (hC : ∀ h', CS c h' L (tiT T here L) here O cp bad → C (some (.inl (tiR T here L))) h') :
    callG (wp G) d 74 2 102 3 [.inr (.inl (some c))] h C X := by
  have x1 : hty h c = some (10, 7) := H.1.1 (0, 10, 7) (by decide)
  have hw := H.2.2.2.2.2.2.2.2.2
  unfold tiR tiT tiN at hC
  refine cg 8 (by omega) (fun d hd => ?_)
  have hd0 : (0 < d) = True := eq_true (by omega)
  simp [wp_eq, wpE, mk_X10_tie, mg, mc_X10_tie, lget, lset, popN, cats, rcv, entL, isArr, kC_s, kC_n, st1, st2, st3, st4, st5, st6, st7, st8, st9, st10, st11, st12, st13, st14, st15, st16, st17, st18, st19, st20, st21, st22, st23, st24, st25, st26, st27, st28, st29, st30, st31, st32, st33, st34, st35, st36, st37, st38, st39, st40, st41, st42, st43, st44, st45, st46, st47, st48, st49, st50, st51, st52, st53, st54, st55, st56, st57, st58, st59, st60, st61, st62, st63, st64, st65, st66, st67, st68, st69, st70, st71, st72, st73, st74, st75, st76, st77, st78, st79, st80, st81, st82, st83, st84, st85, st86, st87, st88, st89, st90, st91, x1, hd0]
  refine c_nodeOfWord (k := 0) (fol := false) (by omega) H (fun h1 H1 _ => ?_)
  have y1 : hty h1 c = some (10, 7) := H1.1.1 (0, 10, 7) (by decide)
  have y2 : hvr h1 c 1 = some (c + 5) := H1.1.2 (0, 1, 5) (by decide)
  have t1 := H1.2.2.1.1
  rcases nwR_res (L := L) (k := 0) (fol := false) hw with hn | ⟨n, hn, he⟩
  · simp only [hn, if_true] at hC
    have hz := hC h1 H1
    (repeat' (first | with_reducible assumption | (refine And.intro ?_ ?_) | (with_reducible intro _) | (simp [wp_eq, wpE, mk_X10_tie, mg, mc_X10_tie, lget, lset, popN, cats, rcv, entL, isArr, kC_s, kC_n, st1, st2, st3, st4, st5, st6, st7, st8, st9, st10, st11, st12, st13, st14, st15, st16, st17, st18, st19, st20, st21, st22, st23, st24, st25, st26, st27, st28, st29, st30, st31, st32, st33, st34, st35, st36, st37, st38, st39, st40, st41, st42, st43, st44, st45, st46, st47, st48, st49, st50, st51, st52, st53, st54, st55, st56, st57, st58, st59, st60, st61, st62, st63, st64, st65, st66, st67, st68, st69, st70, st71, st72, st73, st74, st75, st76, st77, st78, st79, st80, st81, st82, st83, st84, st85, st86, st87, st88, st89, st90, st91, hn]))) <;> (try (first | omega | exact hz))
  · obtain ⟨v, hT⟩ := nwR_live hw he
    rw [he] at hC ⊢
    simp only [show ¬ (n : Int) < 0 by omega, if_false, Int.toNat_natCast] at hC
    have hn0 : ¬ (n : Int) < 0 := by omega
    by_cases hk : tK T n = 0
    · simp only [hk, if_true] at hC
      have hz := hC h1 H1
      (repeat' (first | with_reducible assumption | (refine c_isDirectory (by omega) hn H1.2.2.1 ?_) | (refine And.intro ?_ ?_) | (with_reducible intro _) | (simp [wp_eq, wpE, mk_X10_tie, mg, mc_X10_tie, lget, lset, popN, cats, rcv, entL, isArr, kC_s, kC_n, st1, st2, st3, st4, st5, st6, st7, st8, st9, st10, st11, st12, st13, st14, st15, st16, st17, st18, st19, st20, st21, st22, st23, st24, st25, st26, st27, st28, st29, st30, st31, st32, st33, st34, st35, st36, st37, st38, st39, st40, st41, st42, st43, st44, st45, st46, st47, st48, st49, st50, st51, st52, st53, st54, st55, st56, st57, st58, st59, st60, st61, st62, st63, st64, st65, st66, st67, st68, st69, st70, st71, st72, st73, st74, st75, st76, st77, st78, st79, st80, st81, st82, st83, st84, st85, st86, st87, st88, st89, st90, st91, y1, y2, t1, hd0, hn0, hk, b01]))) <;> (try (first | omega | exact hz))
    · simp only [hk, if_false] at hC
      (repeat' (first | with_reducible assumption | (refine c_isDirectory (by omega) hn H1.2.2.1 ?_) | (refine And.intro ?_ ?_) | (with_reducible intro _) | (simp [wp_eq, wpE, mk_X10_tie, mg, mc_X10_tie, lget, lset, popN, cats, rcv, entL, isArr, kC_s, kC_n, st1, st2, st3, st4, st5, st6, st7, st8, st9, st10, st11, st12, st13, st14, st15, st16, st17, st18, st19, st20, st21, st22, st23, st24, st25, st26, st27, st28, st29, st30, st31, st32, st33, st34, st35, st36, st37, st38, st39, st40, st41, st42, st43, st44, st45, st46, st47, st48, st49, st50, st51, st52, st53, st54, st55, st56, st57, st58, st59, st60, st61, st62, st63, st64, st65, st66, st67, st68, st69, st70, st71, st72, st73, st74, st75, st76, st77, st78, st79, st80, st81, st82, st83, st84, st85, st86, st87, st88, st89, st90, st91, y1, y2, t1, hd0, hn0, hk, b01]))) <;> (try (first | omega | exact hz))
      refine c_newPlace (k := 1) (fn := false) (by omega) H1 (fun h2 H2 => ?_)
      rcases npl_ok (L := L) (k := 1) (fn := false) hw with hm | ⟨di, vd, e1, e2, e3, e4, e5, e6, e7, e8, e9⟩
      · simp only [hm, if_true] at hC
        have hz := hC h2 H2
        (repeat' (first | with_reducible assumption | (refine And.intro ?_ ?_) | (with_reducible intro _) | (simp [wp_eq, wpE, mk_X10_tie, mg, mc_X10_tie, lget, lset, popN, cats, rcv, entL, isArr, kC_s, kC_n, st1, st2, st3, st4, st5, st6, st7, st8, st9, st10, st11, st12, st13, st14, st15, st16, st17, st18, st19, st20, st21, st22, st23, st24, st25, st26, st27, st28, st29, st30, st31, st32, st33, st34, st35, st36, st37, st38, st39, st40, st41, st42, st43, st44, st45, st46, st47, st48, st49, st50, st51, st52, st53, st54, st55, st56, st57, st58, st59, st60, st61, st62, st63, st64, st65, st66, st67, st68, st69, st70, st71, st72, st73, st74, st75, st76, st77, st78, st79, st80, st81, st82, st83, st84, st85, st86, st87, st88, st89, st90, st91, hm]))) <;> (try (first | omega | exact hz))
      · rw [e1] at hC ⊢
        simp only [show ¬ (di : Int) < 0 by omega, if_false, Int.toNat_natCast, hT, Option.getD_some] at hC
        have hdi : ¬ (di : Int) < 0 := by omega
        have hkn : ¬ nK v = 0 := by rw [tK_some hT] at hk; exact hk
        have hN := hw.2.2.2.1 n v hT
        have hn00 : ¬ n = 0 := fun q => by subst q; exact hk hw.2.2.1.1
        have hdn : ¬ di = n := fun q => by subst q; rw [e5] at hT; cases hT; exact hkn e6
        have hcn := cn_le T n (wf_E12 hw) 48
        have hnt := hN.2.2.2.2.2.2.2.2.2.2.1 hn00
        have f2 := H2.2.2.2.2.2.2.2.2.1
        have z1 : hty h2 c = some (10, 7) := H2.1.1 (0, 10, 7) (by decide)
        have z2 : hvr h2 c 1 = some (c + 5) := H2.1.2 (0, 1, 5) (by decide)
        have z3 : hvr h2 c 0 = some (c + 1) := H2.1.2 (0, 0, 1) (by decide)
        have z4 := H2.2.1.1.1
        have bL := H2.2.1.2.1.1
        have hbb := lE_b L 1
        have hTU := c_tieUp (G := G) (d := d) (C := kC G d 74 57 [some (.inr (.inl (some c))), some (.inl (n : Int)), some (.inl (di : Int))] [] 0 0 C (fun _ _ => False)) (kk := 0) (pc := 0) (nx := 0) (j := 0) (st := []) (k := 1) H2 ex_refl f2 H2.2.2.1 (fun m w hm _ hTm hk h0 => H2.2.2.2.2.1 m w hm hTm hk h0) e2 hn hdn e5 hT (hN.2.1 hkn).1 e6 e8 e4 (by omega) (wf_tie hw e5 e6 hT hkn e4 e7 e8) (by omega) (fun h' q => by
          have hz := hC h' q
          (repeat' (first | with_reducible assumption | (refine And.intro ?_ ?_) | (with_reducible intro _) | (simp [wp_eq, wpE, mk_X10_tie, mg, mc_X10_tie, lget, lset, popN, cats, rcv, entL, isArr, kC_s, kC_n, st1, st2, st3, st4, st5, st6, st7, st8, st9, st10, st11, st12, st13, st14, st15, st16, st17, st18, st19, st20, st21, st22, st23, st24, st25, st26, st27, st28, st29, st30, st31, st32, st33, st34, st35, st36, st37, st38, st39, st40, st41, st42, st43, st44, st45, st46, st47, st48, st49, st50, st51, st52, st53, st54, st55, st56, st57, st58, st59, st60, st61, st62, st63, st64, st65, st66, st67, st68, st69, st70, st71, st72, st73, st74, st75, st76, st77, st78, st79, st80, st81, st82, st83, st84, st85, st86, st87, st88, st89, st90, st91]))) <;> (try (first | omega | exact hz)))
        obtain ⟨hLI, hTU⟩ := hTU
        (repeat' (first | with_reducible assumption | (refine c_lastStep (k := 1) (by omega) hLI (by omega) f2 ?_) | (refine And.intro ?_ ?_) | (with_reducible intro _) | (simp [wp_eq, wpE, mk_X10_tie, mg, mc_X10_tie, lget, lset, popN, cats, rcv, entL, isArr, kC_s, kC_n, st1, st2, st3, st4, st5, st6, st7, st8, st9, st10, st11, st12, st13, st14, st15, st16, st17, st18, st19, st20, st21, st22, st23, st24, st25, st26, st27, st28, st29, st30, st31, st32, st33, st34, st35, st36, st37, st38, st39, st40, st41, st42, st43, st44, st45, st46, st47, st48, st49, st50, st51, st52, st53, st54, st55, st56, st57, st58, st59, st60, st61, st62, st63, st64, st65, st66, st67, st68, st69, st70, st71, st72, st73, st74, st75, st76, st77, st78, st79, st80, st81, st82, st83, st84, st85, st86, st87, st88, st89, st90, st91, z1, z2, z3, z4, hd0, hdi]))) <;> (try (first | omega | exact hz))
        all_goals
          rename_i h' r1 r2
          obtain ⟨w1, w2⟩ := hTU h' r1 r2
          have u1 : hty h' c = some (10, 7) := by rw [r1]; simp [hty_I, hvi_I, hvr_I, hvl_I, hsz_I, hty_R, hvi_R, hvr_R, hvl_R, hsz_R, hty_L, hvi_L, hvr_L, hvl_L, hsz_L, hty_P, hvi_P, hvr_P, hvl_P, hsz_P, hty_C, hvi_C, hvr_C, hvl_C, hsz_C, z1]; exact fun q => by have := fsh_lt f2 z1; omega
          have u2 : hvr h' c 1 = some (c + 5) := by rw [r1]; simp [hty_I, hvi_I, hvr_I, hvl_I, hsz_I, hty_R, hvi_R, hvr_R, hvl_R, hsz_R, hty_L, hvi_L, hvr_L, hvl_L, hsz_L, hty_P, hvi_P, hvr_P, hvl_P, hsz_P, hty_C, hvi_C, hvr_C, hvl_C, hsz_C, z2]; exact fun q => by have := fsh_lt f2 z1; omega
          (repeat' (first | with_reducible assumption | (refine w2 _) | (refine And.intro ?_ ?_) | (with_reducible intro _) | (simp [wp_eq, wpE, mk_X10_tie, mg, mc_X10_tie, lget, lset, popN, cats, rcv, entL, isArr, kC_s, kC_n, st1, st2, st3, st4, st5, st6, st7, st8, st9, st10, st11, st12, st13, st14, st15, st16, st17, st18, st19, st20, st21, st22, st23, st24, st25, st26, st27, st28, st29, st30, st31, st32, st33, st34, st35, st36, st37, st38, st39, st40, st41, st42, st43, st44, st45, st46, st47, st48, st49, st50, st51, st52, st53, st54, st55, st56, st57, st58, st59, st60, st61, st62, st63, st64, st65, st66, st67, st68, st69, st70, st71, st72, st73, st74, st75, st76, st77, st78, st79, st80, st81, st82, st83, st84, st85, st86, st87, st88, st89, st90, st91, u1, u2, w1, hd0]))) <;> (try (first | omega | exact hz))
def drO (T : aT) (here : Nat) (L : List Int) : Int ⊕ (Nat × Nat × List Int) := match nwR T here L 0 false with
  | (z, cm) => if z < 0 then .inl z else match cm with
    | none => .inl (-11)
    | some (d, s) => if z = (here : Int) then .inl (-11) else if bAnd (tB T d) 2 = 0 then .inl (-4) else if 0 < (tE T z.toNat).length then .inl (-10) else .inr (z.toNat, d, s)
def drR (T : aT) (here : Nat) (L : List Int) : Int := match drO T here L with
  | .inl z => z
  | .inr q => (q.1 : Int)
def drT (T : aT) (here : Nat) (L : List Int) : aT := match drO T here L with
  | .inl _ => T
  | .inr q => match T q.2.1, T q.1 with
    | some vd, some v => ptT T q.2.1 q.2.2 q.1 vd v
    | _, _ => T
