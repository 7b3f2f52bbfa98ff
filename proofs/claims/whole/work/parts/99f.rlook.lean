/-! a walk ends at a node that is there -/
theorem wk_ex {T : aT} {here : Nat} (hw : wf T here) {fol : Bool} : ∀ f nd lk cm w (n : Nat), ¬ T nd = none → (wk T fol f nd lk cm w).1 = (n : Int) → ¬ T n = none := by
  intro f
  induction f with
  | zero => intro nd lk cm w n h0 h; simp [wk] at h
  | succ f ih =>
    intro nd lk cm w n h0 h
    simp only [wk] at h
    by_cases hd : dsl w = []
    · rw [if_pos hd] at h
      by_cases hq : ¬ w = [] ∧ ¬ tK T nd = 0
      · rw [if_pos hq] at h; simp at h
      · rw [if_neg hq] at h
        have : nd = n := by have h : (nd : Int) = (n : Int) := h; omega
        rw [← this]; exact h0
    · rw [if_neg hd] at h
      cases hs : stp T fol nd lk (dsl w) with
      | inl z =>
        rw [hs] at h
        simp only at h
        exfalso
        have hz : z < 0 := by
          unfold stp at hs
          generalize dsl w = w at *
          by_cases h1 : ¬ tK T nd = 0
          · rw [if_pos h1] at hs; injection hs with hs; omega
          · rw [if_neg h1] at hs
            by_cases h2 : bAnd (tB T nd) 1 = 0
            · rw [if_pos h2] at hs; injection hs with hs; omega
            · rw [if_neg h2] at hs
              by_cases h3 : tkw w = [46]
              · rw [if_pos h3] at hs; cases hs
              · rw [if_neg h3] at hs
                by_cases h4 : tkw w = [46, 46]
                · rw [if_pos h4] at hs; cases hs
                · rw [if_neg h4] at hs
                  cases hl : lkE (tkw w) (tE T nd) with
                  | none => rw [hl] at hs; injection hs with hs; omega
                  | some m =>
                    rw [hl] at hs
                    simp only at hs
                    split at hs
                    · split at hs
                      · injection hs with hs; omega
                      · cases hs
                    · cases hs
        omega
      | inr q =>
        rw [hs] at h
        simp only at h
        refine ih _ _ _ _ n ?_ h
        unfold stp at hs
        generalize dsl w = w at *
        by_cases h1 : ¬ tK T nd = 0
        · rw [if_pos h1] at hs; cases hs
        · rw [if_neg h1] at hs
          have hk : tK T nd = 0 := Classical.not_not.mp h1
          by_cases h2 : bAnd (tB T nd) 1 = 0
          · rw [if_pos h2] at hs; cases hs
          · rw [if_neg h2] at hs
            by_cases h3 : tkw w = [46]
            · rw [if_pos h3] at hs; injection hs with hs; rw [← hs]; exact h0
            · rw [if_neg h3] at hs
              by_cases h4 : tkw w = [46, 46]
              · rw [if_pos h4] at hs
                injection hs with hs
                rw [← hs]
                show ¬ T (tA T nd) = none
                by_cases h00 : nd = 0
                · rw [h00, hw.2.2.1.2]; intro q; have := hw.2.2.1.1; simp [tK, q] at this
                · have := tK_up hw hk h00; intro q; simp [tK, q] at this
              · rw [if_neg h4] at hs
                cases hl : lkE (tkw w) (tE T nd) with
                | none => rw [hl] at hs; cases hs
                | some m =>
                  rw [hl] at hs
                  simp only at hs
                  have hm := lkE_mem hl
                  have hme : ¬ T m = none := by
                    cases hT : T nd with
                    | none => simp [tE, hT] at hm
                    | some v => rw [tE_some hT] at hm; exact ((hw.2.2.2.1 nd v hT).2.2.2.2.2.2.1 _ hm).2.2
                  split at hs
                  · split at hs
                    · cases hs
                    · injection hs with hs
                      rw [← hs]
                      show ¬ T (if lf (tX T m ++ drw w) 0 = 47 then 0 else nd) = none
                      split
                      · intro q; have := hw.2.2.1.1; simp [tK, q] at this
                      · exact h0
                  · injection hs with hs; rw [← hs]; exact hme
theorem wkR_ex {T : aT} {here n : Nat} {fol : Bool} {u : List Int} (hw : wf T here) (h : (wkR T fol here u).1 = (n : Int)) : ∃ v, T n = some v := by
  have h0 : ¬ T 0 = none := fun q => by have := hw.2.2.1.1; simp [tK, q] at this
  have h1 : ¬ T here = none := fun q => by have := hw.2.1.2; simp [tK, q] at this
  have := wk_ex hw 421 (if lf u 0 = 47 then 0 else here) 0 none u n (by split <;> assumption) h
  cases hT : T n with
  | none => exact absurd hT this
  | some v => exact ⟨v, rfl⟩
/-! the reference looks up -newer -/
def lkW (T : aT) (here : Nat) (L : List Int) : List Int → Int
  | [] => 0
  | k :: ws => if (nwR T here L k.toNat true).1 < 0 then (nwR T here L k.toNat true).1 else lkW T here L ws
theorem lkN_W {T : aT} {here : Nat} {L : List Int} : ∀ K : List aK, lkN T here L K = lkW T here L (nwK K) := by
  intro K
  induction K with
  | nil => rfl
  | cons t K ih =>
    simp only [lkN]
    by_cases h : t.1 = 11
    · have e : nwK (t :: K) = (t.2.1 : Int) :: nwK K := by simp [nwK, h]
      rw [e]
      simp only [lkW, Int.toNat_natCast]
      by_cases h2 : (nwR T here L t.2.1 true).1 < 0
      · rw [if_pos ⟨h, h2⟩, if_pos h2]
      · rw [if_neg (fun q => h2 q.2), if_neg h2, ih]
    · have e : nwK (t :: K) = nwK K := by simp [nwK, h]
      rw [if_neg (fun q => h q.1), e, ih]
def NWr (kd fs : Nat → Int) : Nat → Nat → List Int
  | 0, _ => []
  | m + 1, i => (if kd i = 5 then [fs i] else []) ++ NWr kd fs m (i + 1)
theorem NWr_l {kd fs : Nat → Int} : ∀ m i, NWl kd fs (i + m) = NWl kd fs i ++ NWr kd fs m i := by
  intro m
  induction m with
  | zero => intro i; simp [NWr]
  | succ m ih =>
    intro i
    rw [show i + (m + 1) = (i + 1) + m by omega, ih (i + 1)]
    simp only [NWl, NWr, List.append_assoc]
theorem rlk_loop {G : Nat → Nat} {d r N here : Nat} {C : mQ} {X : mX} {L : List Int} {T : aT} {Es : Nat → List aE} {h0 : mH} (hd : 6 ≤ d) (hw : wf T here) (hN : N ≤ 51) (hl : L.length ≤ 100) (bL : bd L) :
    ∀ (m i : Nat) (h : mH) (x2 : Option mV), i + m = N → chJ (sR r [17, 18, 22, 125, 126]) h0 h → RN r h → RP r h L → RW r h L → RT r h T Es here → hvi h r 27 = (N : Int) → (∀ x ∈ NWr (hvi h (r + 19)) (hvi h (r + 20)) m i, ∃ k : Nat, x = (k : Int)) → (∀ q, q < i → hvi h (r + 19) q = 5 → hvi h (r + 22) q = dyW T here L (hvi h (r + 20) q).toNat) →
    (∀ h', chJ (sR r [17, 18, 22, 125, 126]) h0 h' → (lkW T here L (NWr (hvi h (r + 19)) (hvi h (r + 20)) m i) = 0 → ∀ q, q < N → hvi h' (r + 19) q = 5 → hvi h' (r + 22) q = dyW T here L (hvi h' (r + 20) q).toNat) → C (some (.inl (lkW T here L (NWr (hvi h (r + 19)) (hvi h (r + 20)) m i)))) h') →
    wp G d 141 100002 [some (.inr (.inl (some r))), some (.inl (i : Int)), x2] [] h 0 0 C X := by
  have hd0 : (0 < d) = True := eq_true (by omega)
  intro m
  induction m with
  | zero =>
    intro i h x2 hi c0 HR HP HW HT h27 hnat hdy hC
    have R0 := HR.1; have R_days := rn_days HR; have R_partKind := rn_partKind HR; have R_first := rn_first HR; have R_dayOf := rn_dayOf HR
    have hz := hC h c0 (fun _ q hq => hdy q (by omega))
    simp only [NWr, lkW] at hz
    rw [wp_hd]
    (repeat' (first | with_reducible assumption | (refine And.intro ?_ ?_) | (with_reducible intro _) | (simp [wp_eq, wpE, mk_X11_lookUp, mg, mc_X11_lookUp, lget, lset, popN, cats, rcv, entL, isArr, kC_s, kC_n, st1, st2, st3, st4, st5, st6, st7, st8, st9, st10, st11, st12, st13, st14, st15, st16, st17, st18, st19, st20, st21, st22, st23, st24, st25, st26, st27, st28, st29, st30, st31, st32, st33, st34, st35, st36, st37, st38, st39, st40, st41, st42, st43, st44, st45, st46, st47, st48, st49, st50, st51, st52, st53, st54, st55, st56, st57, st58, st59, st60, st61, st62, st63, st64, st65, st66, st67, st68, st69, st70, st71, st72, st73, st74, st75, st76, st77, st78, st79, st80, st81, st82, st83, st84, st85, st86, st87, st88, st89, st90, st91, R0, R_days, R_partKind, R_first, R_dayOf, h27, show (N : Int) ≤ (i : Int) by omega]))) <;> (try (first | omega | exact hz))
  | succ m ih =>
    intro i h x2 hi c0 HR HP HW HT h27 hnat hdy hC
    have R0 := HR.1; have R_days := rn_days HR; have R_partKind := rn_partKind HR; have R_first := rn_first HR; have R_dayOf := rn_dayOf HR
    have hiN : ¬ (N : Int) ≤ (i : Int) := by omega
    rw [wp_hd]
    by_cases h5 : hvi h (r + 19) i = 5
    · have eN : NWr (hvi h (r + 19)) (hvi h (r + 20)) (m + 1) i = hvi h (r + 20) i :: NWr (hvi h (r + 19)) (hvi h (r + 20)) m (i + 1) := by simp only [NWr]; rw [if_pos h5]; rfl
      rw [eN] at hnat hC
      obtain ⟨k, hk⟩ := hnat _ List.mem_cons_self
      simp only [lkW] at hC
      rw [hk] at hC
      rw [Int.toNat_natCast] at hC
      have bN : ∀ h1 : mH, chJ (sR r [17, 18, 22, 125, 126]) h h1 → (∀ q, ¬ q = i → hvi h1 (r + 22) q = hvi h (r + 22) q) → hvi h1 (r + 22) i = dyW T here L k → ¬ (nwR T here L k true).1 < 0 → wp G d 141 50 [some (.inr (.inl (some r))), some (.inl (i : Int)), some (.inl (nwR T here L k true).1)] [] h1 0 0 C X := by
        intro h1 q1 k22 k22i hneg
        rw [if_neg hneg] at hC
        have r19 : hvi h1 (r + 19) = hvi h (r + 19) := funext fun j => chJ_row q1 (by omega) (by simp) j
        have r20 : hvi h1 (r + 20) = hvi h (r + 20) := funext fun j => chJ_row q1 (by omega) (by simp) j
        have hz := ih (i + 1) h1 (some (.inl (nwR T here L k true).1)) (by omega) (chJ_trans c0 q1) (RN_ch q1 HR) (RP_ch q1 (by simp) (by simp) (by simp) HP) (RW_ch q1 (by simp) HW) (RT_ch q1 (by simp) HT) (by rw [chJ_fld q1 (by simp) (by simp)]; exact h27) (by rw [r19, r20]; exact fun x hx => hnat x (List.mem_cons_of_mem _ hx)) (fun q hq h5q => by
          rw [r20]
          by_cases hqi : q = i
          · subst hqi; rw [k22i, hk]; rfl
          · rw [k22 q hqi]; rw [r19] at h5q; exact hdy q (by omega) h5q) (by rw [r19, r20]; exact hC)
        generalize (nwR T here L k true).1 = zz at *
        (repeat' (first | with_reducible assumption | (refine And.intro ?_ ?_) | (with_reducible intro _) | (simp [wp_eq, wpE, mk_X11_lookUp, mg, mc_X11_lookUp, lget, lset, popN, cats, rcv, entL, isArr, kC_s, kC_n, st1, st2, st3, st4, st5, st6, st7, st8, st9, st10, st11, st12, st13, st14, st15, st16, st17, st18, st19, st20, st21, st22, st23, st24, st25, st26, st27, st28, st29, st30, st31, st32, st33, st34, st35, st36, st37, st38, st39, st40, st41, st42, st43, st44, st45, st46, st47, st48, st49, st50, st51, st52, st53, st54, st55, st56, st57, st58, st59, st60, st61, st62, st63, st64, st65, st66, st67, st68, st69, st70, st71, st72, st73, st74, st75, st76, st77, st78, st79, st80, st81, st82, st83, st84, st85, st86, st87, st88, st89, st90, st91, inR]))) <;> (try (first | omega | exact hz))
      by_cases hkl : k < (wds L).length
      · have enw : nwR T here L k true = wkR T true here (wd L k) := by unfold nwR; rw [if_pos hkl]
        have cw : ∀ {C : mQ} {X : mX}, (∀ h', chJ (sR r [17, 18, 125, 126]) h h' → (∀ (n : Nat) c, wkR T true here (wd L k) = ((n : Int), c) → n < 48 ∧ cmR r h' Es n c) → C (some (.inl (wkR T true here (wd L k)).1)) h') → callG (wp G) d 108 0 0 3 [.inr (.inl (some r)), .inl (k : Int), .inl 1] h C X := fun {C X} z => r_walkWord (fol := true) (by omega) (wf_W hw) (wf_unq hw) HR HT hw.2.1.1 HP HW hl bL (fun q => absurd hkl q) (fun _ => z)
        simp [wp_ne 50, wpE, mk_X11_lookUp, mg, mc_X11_lookUp, lget, lset, popN, cats, rcv, entL, isArr, kC_s, kC_n, st1, st2, st3, st4, st5, st6, st7, st8, st9, st10, st11, st12, st13, st14, st15, st16, st17, st18, st19, st20, st21, st22, st23, st24, st25, st26, st27, st28, st29, st30, st31, st32, st33, st34, st35, st36, st37, st38, st39, st40, st41, st42, st43, st44, st45, st46, st47, st48, st49, st50, st51, st52, st53, st54, st55, st56, st57, st58, st59, st60, st61, st62, st63, st64, st65, st66, st67, st68, st69, st70, st71, st72, st73, st74, st75, st76, st77, st78, st79, st80, st81, st82, st83, st84, st85, st86, st87, st88, st89, st90, st91, R0, R_partKind, R_first, h27, h5, hk, hd0, hiN, show (i : Int) < 60 by omega, show (i : Int) < (N : Int) by omega, show i < N by omega, show ¬ N ≤ i by omega]
        refine cw (fun zzh zz1 zz2 => ?_)
        rw [← enw] at zz2 ⊢
        by_cases hneg : (nwR T here L k true).1 < 0
        · rw [if_pos hneg] at hC
          have hz := hC zzh (chJ_trans c0 (chJ_sub zz1 (by simp))) (fun q => by omega)
          generalize (nwR T here L k true).1 = zz at *
          (repeat' (first | with_reducible assumption | (refine And.intro ?_ ?_) | (with_reducible intro _) | (simp [wp_ne 50, wpE, mk_X11_lookUp, mg, mc_X11_lookUp, lget, lset, popN, cats, rcv, entL, isArr, kC_s, kC_n, st1, st2, st3, st4, st5, st6, st7, st8, st9, st10, st11, st12, st13, st14, st15, st16, st17, st18, st19, st20, st21, st22, st23, st24, st25, st26, st27, st28, st29, st30, st31, st32, st33, st34, st35, st36, st37, st38, st39, st40, st41, st42, st43, st44, st45, st46, st47, st48, st49, st50, st51, st52, st53, st54, st55, st56, st57, st58, st59, st60, st61, st62, st63, st64, st65, st66, st67, st68, st69, st70, st71, st72, st73, st74, st75, st76, st77, st78, st79, st80, st81, st82, st83, st84, st85, st86, st87, st88, st89, st90, st91, hneg, show ¬ 0 ≤ zz by omega]))) <;> (try (first | omega | exact hz))
        · obtain ⟨n, hn⟩ : ∃ n : Nat, (nwR T here L k true).1 = (n : Int) := ⟨(nwR T here L k true).1.toNat, by omega⟩
          have hn48 := (zz2 n (nwR T here L k true).2 (by rw [← hn])).1
          obtain ⟨v, hT⟩ := wkR_ex (u := wd L k) (fol := true) hw (by rw [← enw]; exact hn)
          have hdyw : dyW T here L k = nD v := by unfold dyW; rw [hn]; simp [tD, hT]
          have HRz := RN_ch zz1 HR
          have c3 : hvi zzh (r + 3) n = nD v := ((RT_ch zz1 (by simp) HT).2.2 n v hn48 hT).2.1
          have hz := bN (hsetI zzh (r + 22) i (nD v)) (chJ_trans (chJ_sub zz1 (by simp)) (chJ_set (by simp [sR]))) (fun q hq => by rw [hvi_I, if_neg (fun z => hq z.2), chJ_row zz1 (by omega) (by simp)]) (by rw [hvi_I, if_pos ⟨rfl, rfl⟩, hdyw]) hneg
          rw [hn] at hz ⊢
          have R0z := HRz.1; have R_daysz := rn_days HRz; have R_partKindz := rn_partKind HRz; have R_firstz := rn_first HRz; have R_dayOfz := rn_dayOf HRz
          (repeat' (first | with_reducible assumption | (refine And.intro ?_ ?_) | (with_reducible intro _) | (simp [wp_ne 50, wpE, mk_X11_lookUp, mg, mc_X11_lookUp, lget, lset, popN, cats, rcv, entL, isArr, kC_s, kC_n, st1, st2, st3, st4, st5, st6, st7, st8, st9, st10, st11, st12, st13, st14, st15, st16, st17, st18, st19, st20, st21, st22, st23, st24, st25, st26, st27, st28, st29, st30, st31, st32, st33, st34, st35, st36, st37, st38, st39, st40, st41, st42, st43, st44, st45, st46, st47, st48, st49, st50, st51, st52, st53, st54, st55, st56, st57, st58, st59, st60, st61, st62, st63, st64, st65, st66, st67, st68, st69, st70, st71, st72, st73, st74, st75, st76, st77, st78, st79, st80, st81, st82, st83, st84, st85, st86, st87, st88, st89, st90, st91, R0z, R_daysz, R_partKindz, R_firstz, R_dayOfz, c3, show ¬ (n : Int) < 0 by omega]))) <;> (try (first | omega | exact hz))
      · have enw : (nwR T here L k true).1 = -2 := by unfold nwR; rw [if_neg hkl]
        rw [enw, if_pos (by omega)] at hC
        have hz := hC h c0 (fun q => by omega)
        have cw : ∀ {C : mQ} {X : mX}, C (some (.inl (-2))) h → callG (wp G) d 108 0 0 3 [.inr (.inl (some r)), .inl (k : Int), .inl 1] h C X := fun {C X} z => r_walkWord (fol := true) (by omega) (wf_W hw) (wf_unq hw) HR HT hw.2.1.1 HP HW hl bL (fun _ => z) (fun q => absurd q hkl)
        (repeat' (first | with_reducible assumption | (refine cw ?_) | (refine And.intro ?_ ?_) | (with_reducible intro _) | (simp [wp_ne 50, wpE, mk_X11_lookUp, mg, mc_X11_lookUp, lget, lset, popN, cats, rcv, entL, isArr, kC_s, kC_n, st1, st2, st3, st4, st5, st6, st7, st8, st9, st10, st11, st12, st13, st14, st15, st16, st17, st18, st19, st20, st21, st22, st23, st24, st25, st26, st27, st28, st29, st30, st31, st32, st33, st34, st35, st36, st37, st38, st39, st40, st41, st42, st43, st44, st45, st46, st47, st48, st49, st50, st51, st52, st53, st54, st55, st56, st57, st58, st59, st60, st61, st62, st63, st64, st65, st66, st67, st68, st69, st70, st71, st72, st73, st74, st75, st76, st77, st78, st79, st80, st81, st82, st83, st84, st85, st86, st87, st88, st89, st90, st91, R0, R_days, R_partKind, R_first, R_dayOf, h27, h5, hk, hd0, hiN, show (i : Int) < (N : Int) by omega]))) <;> (try (first | omega | exact hz))
    · have eN : NWr (hvi h (r + 19)) (hvi h (r + 20)) (m + 1) i = NWr (hvi h (r + 19)) (hvi h (r + 20)) m (i + 1) := by simp only [NWr]; rw [if_neg h5]; rfl
      rw [eN] at hnat hC
      have hz := fun x2 => ih (i + 1) h x2 (by omega) c0 HR HP HW HT h27 hnat (fun q hq h5q => by
        by_cases hqi : q = i
        · subst hqi; exact absurd h5q h5
        · exact hdy q (by omega) h5q) hC
      (repeat' (first | with_reducible assumption | (refine And.intro ?_ ?_) | (with_reducible intro _) | (simp [wp_eq, wpE, mk_X11_lookUp, mg, mc_X11_lookUp, lget, lset, popN, cats, rcv, entL, isArr, kC_s, kC_n, st1, st2, st3, st4, st5, st6, st7, st8, st9, st10, st11, st12, st13, st14, st15, st16, st17, st18, st19, st20, st21, st22, st23, st24, st25, st26, st27, st28, st29, st30, st31, st32, st33, st34, st35, st36, st37, st38, st39, st40, st41, st42, st43, st44, st45, st46, st47, st48, st49, st50, st51, st52, st53, st54, st55, st56, st57, st58, st59, st60, st61, st62, st63, st64, st65, st66, st67, st68, st69, st70, st71, st72, st73, st74, st75, st76, st77, st78, st79, st80, st81, st82, st83, st84, st85, st86, st87, st88, st89, st90, st91, R0, R_days, R_partKind, R_first, R_dayOf, h27, h5, hiN, inR, show (i : Int) < (N : Int) by omega]))) <;> (try (first | omega | exact hz))
      all_goals first | omega | exact hz _
theorem r_lookUp {G : Nat → Nat} {d r N here : Nat} {h : mH} {C : mQ} {X : mX} {L : List Int} {T : aT} {Es : Nat → List aE} {K : List aK} (hd : 7 ≤ d) (hw : wf T here) (hN : N ≤ 51) (hl : L.length ≤ 100) (bL : bd L) (HR : RN r h) (HP : RP r h L) (HW : RW r h L) (HT : RT r h T Es here) (HN : NW r h N (nwK K))
    (hC : ∀ h', chJ (sR r [17, 18, 22, 125, 126]) h h' → (lkN T here L K = 0 → ∀ q, q < N → hvi h' (r + 19) q = 5 → hvi h' (r + 22) q = dyW T here L (hvi h' (r + 20) q).toNat) → C (some (.inl (lkN T here L K))) h') :
    callG (wp G) d 141 0 0 3 [.inr (.inl (some r))] h C X := by
  have R0 := HR.1
  have e1 : NWr (hvi h (r + 19)) (hvi h (r + 20)) N 0 = nwK K := by
    have := NWr_l (kd := hvi h (r + 19)) (fs := hvi h (r + 20)) N 0
    rw [Nat.zero_add, HN.2] at this
    simpa [NWl] using this.symm
  rw [lkN_W, ← e1] at hC
  refine cg 6 (by omega) (fun d hd => ?_)
  have hd0 : (0 < d) = True := eq_true (by omega)
  have hz := fun x2 => rlk_loop (G := G) (d := d) (C := C) (X := fun _ _ => False) (h0 := h) (by omega) hw hN hl bL N 0 h x2 (by omega) chJ_refl HR HP HW HT HN.1 (by
    rw [e1]
    intro x hx
    unfold nwK at hx
    obtain ⟨t, -, ht⟩ := List.mem_map.mp hx
    exact ⟨t.2.1, ht.symm⟩) (fun q hq => by omega) hC
  (repeat' (first | with_reducible assumption | (refine And.intro ?_ ?_) | (with_reducible intro _) | (simp [wp_eq, wpE, mk_X11_lookUp, mg, mc_X11_lookUp, lget, lset, popN, cats, rcv, entL, isArr, kC_s, kC_n, st1, st2, st3, st4, st5, st6, st7, st8, st9, st10, st11, st12, st13, st14, st15, st16, st17, st18, st19, st20, st21, st22, st23, st24, st25, st26, st27, st28, st29, st30, st31, st32, st33, st34, st35, st36, st37, st38, st39, st40, st41, st42, st43, st44, st45, st46, st47, st48, st49, st50, st51, st52, st53, st54, st55, st56, st57, st58, st59, st60, st61, st62, st63, st64, st65, st66, st67, st68, st69, st70, st71, st72, st73, st74, st75, st76, st77, st78, st79, st80, st81, st82, st83, st84, st85, st86, st87, st88, st89, st90, st91, R0]))) <;> (try (first | omega | exact hz))
  all_goals exact hz _
