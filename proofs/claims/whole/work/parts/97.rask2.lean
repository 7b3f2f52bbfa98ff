def sAS : List Nat := [16, 23, 25, 31, 120, 139, 140, 141]
/-- what stands still while a node is asked -/
def AE (r : Nat) (h : mH) (L : List Int) (T : aT) (Es : Nat → List aE) (here : Nat) (pr : Int) (P : List Int) (fr nn N : Nat) : Prop := RX r h L T Es here pr ∧ RQ r h P fr nn ∧ ∀ q, q < N → hvi h (r + 19) q = 5 → hvi h (r + 22) q = dyW T here L (hvi h (r + 20) q).toNat
theorem RX_ch {r here : Nat} {h h' : mH} {L : List Int} {T : aT} {Es : Nat → List aE} {pr : Int} {l : List Nat} (q : chJ (sR r l) h h') (hl : ∀ c ∈ [0, 1, 2, 3, 4, 5, 6, 7, 8, 9, 10, 11, 12, 13, 14, 15, 113, 115, 116, 138], ¬ c ∈ l) (H : RX r h L T Es here pr) : RX r h' L T Es here pr :=
  ⟨RN_ch q H.1, RP_ch q (hl _ (by simp)) (hl _ (by simp)) (hl _ (by simp)) H.2.1, RW_ch q (fun c hc => hl c (by simp at hc ⊢; omega)) H.2.2.1, RT_ch q (fun c hc => hl c (by simp at hc ⊢; omega)) H.2.2.2.1, by rw [chJ_fld q (hl _ (by simp)) (hl _ (by simp))]; exact H.2.2.2.2.1, H.2.2.2.2.2⟩
theorem RQ_ch {r fr nn : Nat} {h h' : mH} {P : List Int} {l : List Nat} (q : chJ (sR r l) h h') (hl : ∀ c ∈ [0, 26, 143, 144, 145], ¬ c ∈ l) (H : RQ r h P fr nn) : RQ r h' P fr nn := ⟨by rw [chJ_fld q (hl _ (by simp)) (hl _ (by simp))]; exact H.1, by rw [chJ_fld q (hl _ (by simp)) (hl _ (by simp))]; exact H.2.1, by rw [chJ_fld q (hl _ (by simp)) (hl _ (by simp))]; exact H.2.2.1, fun i hi => by rw [chJ_row q (by omega) (hl _ (by simp))]; exact H.2.2.2 i hi⟩
theorem AE_ch {r here fr nn N : Nat} {h h' : mH} {L : List Int} {T : aT} {Es : Nat → List aE} {pr : Int} {P : List Int} (q : chJ (sR r sAS) h h') (H : AE r h L T Es here pr P fr nn N) : AE r h' L T Es here pr P fr nn N :=
  ⟨RX_ch q (by simp [sAS]) H.1, RQ_ch q (by simp [sAS]) H.2.1, fun i hi h5 => by rw [chJ_row q (by omega) (by simp [sAS])] at h5 ⊢; rw [chJ_row q (by omega) (by simp [sAS])]; exact H.2.2 i hi h5⟩
theorem PH_ch {r p : Nat} {h h' : mH} {e : bT} {l : List Nat} (q : chJ (sR r l) h h') (hl : ∀ c ∈ [19, 20, 21], ¬ c ∈ l) (H : PH r h e p) : PH r h' e p := pT_mono e p (fun i _ => ⟨chJ_row q (by omega) (hl _ (by simp)) i, chJ_row q (by omega) (hl _ (by simp)) i, chJ_row q (by omega) (hl _ (by simp)) i⟩) H
/-- the top of the pile of askings: what is done there -/
theorem ak_head {G : Nat → Nat} {d r p m : Nat} {h : mH} {C : mQ} {X : mX} {k sg : Int} {x1 x3 x4 x5 x6 x7 : Option mV} (HR : RN r h) (hm : m < 58) (hp : p < 60) (hP : hvi h (r + 23) m = (p : Int)) (hS : hvi h (r + 25) m = sg) (hsg : 0 ≤ sg ∧ sg ≤ 5) (hk : hvi h (r + 19) p = k)
    (hz : wp G d 137 74 [some (.inr (.inl (some r))), x1, some (.inl ((m : Int) + 1)), x3, some (.inl (p : Int)), some (.inl k), some (.inl sg), some (.inl (-1))] [] (hsetI h (r + 25) m (sg + 1)) 0 0 C X) :
    wp G d 137 100026 [some (.inr (.inl (some r))), x1, some (.inl ((m : Int) + 1)), x3, x4, x5, x6, x7] [] h 0 0 C X := by
  have R0 := HR.1; have R_partKind := rn_partKind HR; have R_first := rn_first HR; have R_second := rn_second HR; have R_pile := rn_pile HR; have R_stage := rn_stage HR
  have e1 : ((m : Int) + 1 - 1).toNat = m := by omega
  rw [wp_hd]
  have h59 : wp G d 137 59 [some (.inr (.inl (some r))), x1, some (.inl ((m : Int) + 1)), x3, some (.inl (p : Int)), some (.inl k), some (.inl sg), x7] [] h 0 0 C X := by
    (repeat' (first | with_reducible assumption | (refine And.intro ?_ ?_) | (with_reducible intro _) | (simp [wp_ne 74, wpE, mk_X11_ask, mg, mc_X11_ask, lget, lset, popN, cats, rcv, entL, isArr, kC_s, kC_n, st1, st2, st3, st4, st5, st6, st7, st8, st9, st10, st11, st12, st13, st14, st15, st16, st17, st18, st19, st20, st21, st22, st23, st24, st25, st26, st27, st28, st29, st30, st31, st32, st33, st34, st35, st36, st37, st38, st39, st40, st41, st42, st43, st44, st45, st46, st47, st48, st49, st50, st51, st52, st53, st54, st55, st56, st57, st58, st59, st60, st61, st62, st63, st64, st65, st66, st67, st68, st69, st70, st71, st72, st73, st74, st75, st76, st77, st78, st79, st80, st81, st82, st83, st84, st85, st86, st87, st88, st89, st90, st91, R0, R_partKind, R_first, R_second, R_pile, R_stage, e1, hS, inR, hty_I, hvi_I, hvr_I, hvl_I, hsz_I, hty_R, hvi_R, hvr_R, hvl_R, hsz_R, hty_L, hvi_L, hvr_L, hvl_L, hsz_L, hty_P, hvi_P, hvr_P, hvl_P, hsz_P, hty_C, hvi_C, hvr_C, hvl_C, hsz_C]))) <;> (try (first | omega | exact hz))
  have hz := h59
  (repeat' (first | with_reducible assumption | (refine And.intro ?_ ?_) | (with_reducible intro _) | (simp [wp_ne 59, wpE, mk_X11_ask, mg, mc_X11_ask, lget, lset, popN, cats, rcv, entL, isArr, kC_s, kC_n, st1, st2, st3, st4, st5, st6, st7, st8, st9, st10, st11, st12, st13, st14, st15, st16, st17, st18, st19, st20, st21, st22, st23, st24, st25, st26, st27, st28, st29, st30, st31, st32, st33, st34, st35, st36, st37, st38, st39, st40, st41, st42, st43, st44, st45, st46, st47, st48, st49, st50, st51, st52, st53, st54, st55, st56, st57, st58, st59, st60, st61, st62, st63, st64, st65, st66, st67, st68, st69, st70, st71, st72, st73, st74, st75, st76, st77, st78, st79, st80, st81, st82, st83, st84, st85, st86, st87, st88, st89, st90, st91, R0, R_partKind, R_first, R_second, R_pile, R_stage, e1, hP, hS, hk, inR, hty_I, hvi_I, hvr_I, hvl_I, hsz_I, hty_R, hvi_R, hvr_R, hvl_R, hsz_R, hty_L, hvi_L, hvr_L, hvl_L, hsz_L, hty_P, hvi_P, hvr_P, hvl_P, hsz_P, hty_C, hvi_C, hvr_C, hvl_C, hsz_C]))) <;> (try (first | omega | exact hz))
theorem ak_push {G : Nat → Nat} {d r p m q k : Nat} {h : mH} {C : mQ} {X : mX} {x1 x3 : Option mV} (HR : RN r h) (hm : m < 58) (hp : p < 60) (hk9 : 9 ≤ k) (hq : hvi h (r + 20) p = (q : Int))
    (hz : ∀ x4 x5 x6 x7, wp G d 137 100026 [some (.inr (.inl (some r))), x1, some (.inl (((m + 1 : Nat) : Int) + 1)), x3, x4, x5, x6, x7] [] (hsetI (hsetI h (r + 23) (m + 1) (q : Int)) (r + 25) (m + 1) 0) 0 0 C X) :
    wp G d 137 74 [some (.inr (.inl (some r))), x1, some (.inl ((m : Int) + 1)), x3, some (.inl (p : Int)), some (.inl (k : Int)), some (.inl 0), some (.inl (-1))] [] h 0 0 C X := by
  have R0 := HR.1; have R_partKind := rn_partKind HR; have R_first := rn_first HR; have R_second := rn_second HR; have R_pile := rn_pile HR; have R_stage := rn_stage HR
  have e2 : ((m : Int) + 1).toNat = m + 1 := by omega
  rw [show (((m + 1 : Nat) : Int) + 1) = (m : Int) + 1 + 1 by omega] at hz
  have h160 : wp G d 137 160 [some (.inr (.inl (some r))), x1, some (.inl ((m : Int) + 1)), x3, some (.inl (p : Int)), some (.inl (k : Int)), some (.inl 0), some (.inl (q : Int))] [] h 0 0 C X := by
    (repeat' (first | with_reducible assumption | (refine And.intro ?_ ?_) | (with_reducible intro _) | (simp [wp_eq, wpE, mk_X11_ask, mg, mc_X11_ask, lget, lset, popN, cats, rcv, entL, isArr, kC_s, kC_n, st1, st2, st3, st4, st5, st6, st7, st8, st9, st10, st11, st12, st13, st14, st15, st16, st17, st18, st19, st20, st21, st22, st23, st24, st25, st26, st27, st28, st29, st30, st31, st32, st33, st34, st35, st36, st37, st38, st39, st40, st41, st42, st43, st44, st45, st46, st47, st48, st49, st50, st51, st52, st53, st54, st55, st56, st57, st58, st59, st60, st61, st62, st63, st64, st65, st66, st67, st68, st69, st70, st71, st72, st73, st74, st75, st76, st77, st78, st79, st80, st81, st82, st83, st84, st85, st86, st87, st88, st89, st90, st91, R0, R_partKind, R_first, R_second, R_pile, R_stage, e2, inR, hty_I, hvi_I, hvr_I, hvl_I, hsz_I, hty_R, hvi_R, hvr_R, hvl_R, hsz_R, hty_L, hvi_L, hvr_L, hvl_L, hsz_L, hty_P, hvi_P, hvr_P, hvl_P, hsz_P, hty_C, hvi_C, hvr_C, hvl_C, hsz_C, show ¬ (q : Int) < 0 by omega]))) <;> (try (first | omega | exact hz))
    all_goals first | omega | exact hz _ _ _ _
  have hz := h160
  (repeat' (first | with_reducible assumption | (refine And.intro ?_ ?_) | (with_reducible intro _) | (simp [wp_ne 160, wpE, mk_X11_ask, mg, mc_X11_ask, lget, lset, popN, cats, rcv, entL, isArr, kC_s, kC_n, st1, st2, st3, st4, st5, st6, st7, st8, st9, st10, st11, st12, st13, st14, st15, st16, st17, st18, st19, st20, st21, st22, st23, st24, st25, st26, st27, st28, st29, st30, st31, st32, st33, st34, st35, st36, st37, st38, st39, st40, st41, st42, st43, st44, st45, st46, st47, st48, st49, st50, st51, st52, st53, st54, st55, st56, st57, st58, st59, st60, st61, st62, st63, st64, st65, st66, st67, st68, st69, st70, st71, st72, st73, st74, st75, st76, st77, st78, st79, st80, st81, st82, st83, st84, st85, st86, st87, st88, st89, st90, st91, R0, R_partKind, R_first, R_second, R_pile, R_stage, hq, inR, show ¬ (k : Int) < 9 by omega, show (9 : Int) ≤ (k : Int) by omega]))) <;> (try (first | omega | exact hz))
theorem ak_not {G : Nat → Nat} {d r p m : Nat} {h : mH} {C : mQ} {X : mX} {b : Bool} {x1 : Option mV} (HR : RN r h) (hm : m < 58)
    (hz : ∀ x4 x5 x6 x7, wp G d 137 100026 [some (.inr (.inl (some r))), x1, some (.inl (m : Int)), some (.inl (b01 (!b))), x4, x5, x6, x7] [] h 0 0 C X) :
    wp G d 137 74 [some (.inr (.inl (some r))), x1, some (.inl ((m : Int) + 1)), some (.inl (b01 b)), some (.inl (p : Int)), some (.inl 9), some (.inl 1), some (.inl (-1))] [] h 0 0 C X := by
  have R0 := HR.1; have R_partKind := rn_partKind HR; have R_first := rn_first HR; have R_second := rn_second HR; have R_pile := rn_pile HR; have R_stage := rn_stage HR
  have e2 : (m : Int) + 1 + -1 = (m : Int) := by omega
  cases b
  all_goals
    simp [b01] at hz ⊢
    (repeat' (first | with_reducible assumption | (refine And.intro ?_ ?_) | (with_reducible intro _) | (simp [wp_eq, wpE, mk_X11_ask, mg, mc_X11_ask, lget, lset, popN, cats, rcv, entL, isArr, kC_s, kC_n, st1, st2, st3, st4, st5, st6, st7, st8, st9, st10, st11, st12, st13, st14, st15, st16, st17, st18, st19, st20, st21, st22, st23, st24, st25, st26, st27, st28, st29, st30, st31, st32, st33, st34, st35, st36, st37, st38, st39, st40, st41, st42, st43, st44, st45, st46, st47, st48, st49, st50, st51, st52, st53, st54, st55, st56, st57, st58, st59, st60, st61, st62, st63, st64, st65, st66, st67, st68, st69, st70, st71, st72, st73, st74, st75, st76, st77, st78, st79, st80, st81, st82, st83, st84, st85, st86, st87, st88, st89, st90, st91, R0, R_partKind, R_first, R_second, R_pile, R_stage, e2, inR, hty_I, hvi_I, hvr_I, hvl_I, hsz_I, hty_R, hvi_R, hvr_R, hvl_R, hsz_R, hty_L, hvi_L, hvr_L, hvl_L, hsz_L, hty_P, hvi_P, hvr_P, hvl_P, hsz_P, hty_C, hvi_C, hvr_C, hvl_C, hsz_C]))) <;> (try (first | omega | exact hz))
    all_goals first | omega | exact hz _ _ _ _
theorem ak_two {G : Nat → Nat} {d r p m q k : Nat} {h : mH} {C : mQ} {X : mX} {b : Bool} {x1 : Option mV} (HR : RN r h) (hm : m < 58) (hp : p < 60) (hkb : k = 10 ∧ b = true ∨ k = 11 ∧ b = false) (hq : hvi h (r + 21) p = (q : Int))
    (hz : ∀ x4 x5 x6 x7, wp G d 137 100026 [some (.inr (.inl (some r))), x1, some (.inl (((m + 1 : Nat) : Int) + 1)), some (.inl (b01 b)), x4, x5, x6, x7] [] (hsetI (hsetI h (r + 23) (m + 1) (q : Int)) (r + 25) (m + 1) 0) 0 0 C X) :
    wp G d 137 74 [some (.inr (.inl (some r))), x1, some (.inl ((m : Int) + 1)), some (.inl (b01 b)), some (.inl (p : Int)), some (.inl (k : Int)), some (.inl 1), some (.inl (-1))] [] h 0 0 C X := by
  have R0 := HR.1; have R_partKind := rn_partKind HR; have R_first := rn_first HR; have R_second := rn_second HR; have R_pile := rn_pile HR; have R_stage := rn_stage HR
  have e2 : ((m : Int) + 1).toNat = m + 1 := by omega
  rw [show (((m + 1 : Nat) : Int) + 1) = (m : Int) + 1 + 1 by omega] at hz
  have h160 : wp G d 137 160 [some (.inr (.inl (some r))), x1, some (.inl ((m : Int) + 1)), some (.inl (b01 b)), some (.inl (p : Int)), some (.inl (k : Int)), some (.inl 1), some (.inl (q : Int))] [] h 0 0 C X := by
    (repeat' (first | with_reducible assumption | (refine And.intro ?_ ?_) | (with_reducible intro _) | (simp [wp_eq, wpE, mk_X11_ask, mg, mc_X11_ask, lget, lset, popN, cats, rcv, entL, isArr, kC_s, kC_n, st1, st2, st3, st4, st5, st6, st7, st8, st9, st10, st11, st12, st13, st14, st15, st16, st17, st18, st19, st20, st21, st22, st23, st24, st25, st26, st27, st28, st29, st30, st31, st32, st33, st34, st35, st36, st37, st38, st39, st40, st41, st42, st43, st44, st45, st46, st47, st48, st49, st50, st51, st52, st53, st54, st55, st56, st57, st58, st59, st60, st61, st62, st63, st64, st65, st66, st67, st68, st69, st70, st71, st72, st73, st74, st75, st76, st77, st78, st79, st80, st81, st82, st83, st84, st85, st86, st87, st88, st89, st90, st91, R0, R_partKind, R_first, R_second, R_pile, R_stage, e2, inR, hty_I, hvi_I, hvr_I, hvl_I, hsz_I, hty_R, hvi_R, hvr_R, hvl_R, hsz_R, hty_L, hvi_L, hvr_L, hvl_L, hsz_L, hty_P, hvi_P, hvr_P, hvl_P, hsz_P, hty_C, hvi_C, hvr_C, hvl_C, hsz_C, show ¬ (q : Int) < 0 by omega]))) <;> (try (first | omega | exact hz))
    all_goals first | omega | exact hz _ _ _ _
  rcases hkb with ⟨rfl, rfl⟩ | ⟨rfl, rfl⟩
  all_goals
    have hz := h160
    simp [b01] at hz ⊢
    (repeat' (first | with_reducible assumption | (refine And.intro ?_ ?_) | (with_reducible intro _) | (simp [wp_ne 160, wpE, mk_X11_ask, mg, mc_X11_ask, lget, lset, popN, cats, rcv, entL, isArr, kC_s, kC_n, st1, st2, st3, st4, st5, st6, st7, st8, st9, st10, st11, st12, st13, st14, st15, st16, st17, st18, st19, st20, st21, st22, st23, st24, st25, st26, st27, st28, st29, st30, st31, st32, st33, st34, st35, st36, st37, st38, st39, st40, st41, st42, st43, st44, st45, st46, st47, st48, st49, st50, st51, st52, st53, st54, st55, st56, st57, st58, st59, st60, st61, st62, st63, st64, st65, st66, st67, st68, st69, st70, st71, st72, st73, st74, st75, st76, st77, st78, st79, st80, st81, st82, st83, st84, st85, st86, st87, st88, st89, st90, st91, R0, R_partKind, R_first, R_second, R_pile, R_stage, hq, inR]))) <;> (try (first | omega | exact hz))
theorem ak_one {G : Nat → Nat} {d r p m k sg : Nat} {h : mH} {C : mQ} {X : mX} {b : Bool} {x1 : Option mV} (HR : RN r h) (hm : m < 58) (hkb : (sg = 1 ∧ (k = 10 ∧ b = false ∨ k = 11 ∧ b = true)) ∨ (sg = 2 ∧ (k = 10 ∨ k = 11)))
    (hz : ∀ x4 x5 x6 x7, wp G d 137 100026 [some (.inr (.inl (some r))), x1, some (.inl (m : Int)), some (.inl (b01 b)), x4, x5, x6, x7] [] h 0 0 C X) :
    wp G d 137 74 [some (.inr (.inl (some r))), x1, some (.inl ((m : Int) + 1)), some (.inl (b01 b)), some (.inl (p : Int)), some (.inl (k : Int)), some (.inl (sg : Int)), some (.inl (-1))] [] h 0 0 C X := by
  have R0 := HR.1; have R_partKind := rn_partKind HR; have R_first := rn_first HR; have R_second := rn_second HR; have R_pile := rn_pile HR; have R_stage := rn_stage HR
  have e2 : (m : Int) + 1 + -1 = (m : Int) := by omega
  rcases hkb with ⟨rfl, (⟨rfl, rfl⟩ | ⟨rfl, rfl⟩)⟩ | ⟨rfl, (rfl | rfl)⟩
  · simp [b01] at hz ⊢
    (repeat' (first | with_reducible assumption | (refine And.intro ?_ ?_) | (with_reducible intro _) | (simp [wp_eq, wpE, mk_X11_ask, mg, mc_X11_ask, lget, lset, popN, cats, rcv, entL, isArr, kC_s, kC_n, st1, st2, st3, st4, st5, st6, st7, st8, st9, st10, st11, st12, st13, st14, st15, st16, st17, st18, st19, st20, st21, st22, st23, st24, st25, st26, st27, st28, st29, st30, st31, st32, st33, st34, st35, st36, st37, st38, st39, st40, st41, st42, st43, st44, st45, st46, st47, st48, st49, st50, st51, st52, st53, st54, st55, st56, st57, st58, st59, st60, st61, st62, st63, st64, st65, st66, st67, st68, st69, st70, st71, st72, st73, st74, st75, st76, st77, st78, st79, st80, st81, st82, st83, st84, st85, st86, st87, st88, st89, st90, st91, R0, R_partKind, R_first, R_second, R_pile, R_stage, e2, inR, hty_I, hvi_I, hvr_I, hvl_I, hsz_I, hty_R, hvi_R, hvr_R, hvl_R, hsz_R, hty_L, hvi_L, hvr_L, hvl_L, hsz_L, hty_P, hvi_P, hvr_P, hvl_P, hsz_P, hty_C, hvi_C, hvr_C, hvl_C, hsz_C]))) <;> (try (first | omega | exact hz))
    all_goals first | omega | exact hz _ _ _ _
  · simp [b01] at hz ⊢
    (repeat' (first | with_reducible assumption | (refine And.intro ?_ ?_) | (with_reducible intro _) | (simp [wp_eq, wpE, mk_X11_ask, mg, mc_X11_ask, lget, lset, popN, cats, rcv, entL, isArr, kC_s, kC_n, st1, st2, st3, st4, st5, st6, st7, st8, st9, st10, st11, st12, st13, st14, st15, st16, st17, st18, st19, st20, st21, st22, st23, st24, st25, st26, st27, st28, st29, st30, st31, st32, st33, st34, st35, st36, st37, st38, st39, st40, st41, st42, st43, st44, st45, st46, st47, st48, st49, st50, st51, st52, st53, st54, st55, st56, st57, st58, st59, st60, st61, st62, st63, st64, st65, st66, st67, st68, st69, st70, st71, st72, st73, st74, st75, st76, st77, st78, st79, st80, st81, st82, st83, st84, st85, st86, st87, st88, st89, st90, st91, R0, R_partKind, R_first, R_second, R_pile, R_stage, e2, inR, hty_I, hvi_I, hvr_I, hvl_I, hsz_I, hty_R, hvi_R, hvr_R, hvl_R, hsz_R, hty_L, hvi_L, hvr_L, hvl_L, hsz_L, hty_P, hvi_P, hvr_P, hvl_P, hsz_P, hty_C, hvi_C, hvr_C, hvl_C, hsz_C]))) <;> (try (first | omega | exact hz))
    all_goals first | omega | exact hz _ _ _ _
  · (repeat' (first | with_reducible assumption | (refine And.intro ?_ ?_) | (with_reducible intro _) | (simp [wp_eq, wpE, mk_X11_ask, mg, mc_X11_ask, lget, lset, popN, cats, rcv, entL, isArr, kC_s, kC_n, st1, st2, st3, st4, st5, st6, st7, st8, st9, st10, st11, st12, st13, st14, st15, st16, st17, st18, st19, st20, st21, st22, st23, st24, st25, st26, st27, st28, st29, st30, st31, st32, st33, st34, st35, st36, st37, st38, st39, st40, st41, st42, st43, st44, st45, st46, st47, st48, st49, st50, st51, st52, st53, st54, st55, st56, st57, st58, st59, st60, st61, st62, st63, st64, st65, st66, st67, st68, st69, st70, st71, st72, st73, st74, st75, st76, st77, st78, st79, st80, st81, st82, st83, st84, st85, st86, st87, st88, st89, st90, st91, R0, R_partKind, R_first, R_second, R_pile, R_stage, e2, inR, hty_I, hvi_I, hvr_I, hvl_I, hsz_I, hty_R, hvi_R, hvr_R, hvl_R, hsz_R, hty_L, hvi_L, hvr_L, hvl_L, hsz_L, hty_P, hvi_P, hvr_P, hvl_P, hsz_P, hty_C, hvi_C, hvr_C, hvl_C, hsz_C]))) <;> (try (first | omega | exact hz))
    all_goals first | omega | exact hz _ _ _ _
  · (repeat' (first | with_reducible assumption | (refine And.intro ?_ ?_) | (with_reducible intro _) | (simp [wp_eq, wpE, mk_X11_ask, mg, mc_X11_ask, lget, lset, popN, cats, rcv, entL, isArr, kC_s, kC_n, st1, st2, st3, st4, st5, st6, st7, st8, st9, st10, st11, st12, st13, st14, st15, st16, st17, st18, st19, st20, st21, st22, st23, st24, st25, st26, st27, st28, st29, st30, st31, st32, st33, st34, st35, st36, st37, st38, st39, st40, st41, st42, st43, st44, st45, st46, st47, st48, st49, st50, st51, st52, st53, st54, st55, st56, st57, st58, st59, st60, st61, st62, st63, st64, st65, st66, st67, st68, st69, st70, st71, st72, st73, st74, st75, st76, st77, st78, st79, st80, st81, st82, st83, st84, st85, st86, st87, st88, st89, st90, st91, R0, R_partKind, R_first, R_second, R_pile, R_stage, e2, inR, hty_I, hvi_I, hvr_I, hvl_I, hsz_I, hty_R, hvi_R, hvr_R, hvl_R, hsz_R, hty_L, hvi_L, hvr_L, hvl_L, hsz_L, hty_P, hvi_P, hvr_P, hvl_P, hsz_P, hty_C, hvi_C, hvr_C, hvl_C, hsz_C]))) <;> (try (first | omega | exact hz))
    all_goals first | omega | exact hz _ _ _ _
def AC (G : Nat → Nat) (d r n : Nat) (L : List Int) (T : aT) (Es : Nat → List aE) (here : Nat) (pr : Int) (P w : List Int) (v : aN) (fr nn N : Nat) (C : mQ) (X : mX) (e : bT) : Prop := ∀ (p m : Nat) (h : mH) (s : aS) (x3 x4 x5 x6 x7 : Option mV), p < N → m + p < 58 → PH r h e p → alL (tkO L) e → AE r h L T Es here pr P fr nn N → RA r h s → hvi h (r + 23) m = (p : Int) → hvi h (r + 25) m = 0 →
    (∀ h' x4 x5 x6 x7, chJ (sR r sAS) h h' → (∀ i, i < m → hvi h' (r + 23) i = hvi h (r + 23) i ∧ hvi h' (r + 25) i = hvi h (r + 25) i) → RA r h' (evB (tsF L T here pr v w P) e s).2 → wp G d 137 100026 [some (.inr (.inl (some r))), some (.inl (n : Int)), some (.inl (m : Int)), some (.inl (b01 (evB (tsF L T here pr v w P) e s).1)), x4, x5, x6, x7] [] h' 0 0 C X) →
    wp G d 137 100026 [some (.inr (.inl (some r))), some (.inl (n : Int)), some (.inl ((m : Int) + 1)), x3, x4, x5, x6, x7] [] h 0 0 C X
/-- a child is asked: what holds when it has answered -/
theorem ak_child {G : Nat → Nat} {d r n fr nn N here p q m : Nat} {C : mQ} {X : mX} {L : List Int} {T : aT} {Es : Nat → List aE} {pr : Int} {v : aN} {w P : List Int} {x : bT} (ih : AC G d r n L T Es here pr P w v fr nn N C X x) {h h1 : mH} {s : aS} {sg : Int} {x3 x4 x5 x6 x7 : Option mV} (c0 : chJ (sR r sAS) h h1) (A1 : RA r h1 s) (E0 : AE r h L T Es here pr P fr nn N) (hqN : q < N) (hmq : m + 1 + q < 58) (PX : PH r h x q) (hal : alL (tkO L) x) (l1 : ∀ i, i < m → hvi h1 (r + 23) i = hvi h (r + 23) i ∧ hvi h1 (r + 25) i = hvi h (r + 25) i) (t23 : hvi h1 (r + 23) m = (p : Int)) (t25 : hvi h1 (r + 25) m = sg)
    (hC : ∀ h2 x4 x5 x6 x7, chJ (sR r sAS) h h2 → (∀ i, i < m → hvi h2 (r + 23) i = hvi h (r + 23) i ∧ hvi h2 (r + 25) i = hvi h (r + 25) i) → hvi h2 (r + 23) m = (p : Int) → hvi h2 (r + 25) m = sg → RA r h2 (evB (tsF L T here pr v w P) x s).2 → wp G d 137 100026 [some (.inr (.inl (some r))), some (.inl (n : Int)), some (.inl ((m : Int) + 1)), some (.inl (b01 (evB (tsF L T here pr v w P) x s).1)), x4, x5, x6, x7] [] h2 0 0 C X) :
    wp G d 137 100026 [some (.inr (.inl (some r))), some (.inl (n : Int)), some (.inl (((m + 1 : Nat) : Int) + 1)), x3, x4, x5, x6, x7] [] (hsetI (hsetI h1 (r + 23) (m + 1) (q : Int)) (r + 25) (m + 1) 0) 0 0 C X := by
  have d1 : chJ (sR r [23, 25]) h1 (hsetI (hsetI h1 (r + 23) (m + 1) (q : Int)) (r + 25) (m + 1) 0) := chJ_trans (chJ_set (by simp [sR])) (chJ_set (by simp [sR]))
  have c1 : chJ (sR r sAS) h (hsetI (hsetI h1 (r + 23) (m + 1) (q : Int)) (r + 25) (m + 1) 0) := chJ_trans c0 (chJ_sub d1 (by simp [sAS]))
  have v23 : ∀ i, i < m + 1 → hvi (hsetI (hsetI h1 (r + 23) (m + 1) (q : Int)) (r + 25) (m + 1) 0) (r + 23) i = hvi h1 (r + 23) i := fun i hi => by rw [hvi_I, if_neg (by omega), hvi_I, if_neg (by omega)]
  have v25 : ∀ i, i < m + 1 → hvi (hsetI (hsetI h1 (r + 23) (m + 1) (q : Int)) (r + 25) (m + 1) 0) (r + 25) i = hvi h1 (r + 25) i := fun i hi => by rw [hvi_I, if_neg (by omega), hvi_I, if_neg (by omega)]
  refine ih q (m + 1) _ s x3 x4 x5 x6 x7 hqN hmq (PH_ch c1 (by simp [sAS]) PX) hal (AE_ch c1 E0) (RA_ch d1 (by simp) A1) (by rw [hvi_I, if_neg (by omega), hvi_I, if_pos ⟨rfl, rfl⟩]) (by rw [hvi_I, if_pos ⟨rfl, rfl⟩]) (fun h2 x4 x5 x6 x7 d2 f2 A2 => ?_)
  have hz := hC h2 x4 x5 x6 x7 (chJ_trans c1 d2) (fun i hi => by rw [(f2 i (by omega)).1, (f2 i (by omega)).2, v23 i (by omega), v25 i (by omega)]; exact l1 i hi) (by rw [(f2 m (by omega)).1, v23 m (by omega)]; exact t23) (by rw [(f2 m (by omega)).2, v25 m (by omega)]; exact t25) A2
  rw [show ((m + 1 : Nat) : Int) = (m : Int) + 1 by omega]
  exact hz
theorem ak_bin {G : Nat → Nat} {d r n fr nn N here : Nat} {C : mQ} {X : mX} {L : List Int} {T : aT} {Es : Nat → List aE} {pr : Int} {v : aN} {w P : List Int} {x y e : bT} {k : Nat} (hN : N ≤ 58) (hke : k = 10 ∧ e = .mul x y ∨ k = 11 ∧ e = .add x y) (ihx : AC G d r n L T Es here pr P w v fr nn N C X x) (ihy : AC G d r n L T Es here pr P w v fr nn N C X y) : AC G d r n L T Es here pr P w v fr nn N C X e := by
  intro p m h s x3 x4 x5 x6 x7 hpN hmp hPH hal HE HA h23 h25 hC
  have HR := HE.1.1
  have hPH' : hvi h (r + 19) p = (k : Int) ∧ ∃ q1 q2, q1 < p ∧ q2 < p ∧ hvi h (r + 20) p = (q1 : Int) ∧ hvi h (r + 21) p = (q2 : Int) ∧ PH r h x q1 ∧ PH r h y q2 := by
    rcases hke with ⟨rfl, rfl⟩ | ⟨rfl, rfl⟩
    · exact hPH
    · exact hPH
  have hal' : alL (tkO L) x ∧ alL (tkO L) y := by
    rcases hke with ⟨rfl, rfl⟩ | ⟨rfl, rfl⟩
    · exact hal
    · exact hal
  have hk9 : k = 10 ∨ k = 11 := by rcases hke with ⟨q, -⟩ | ⟨q, -⟩ <;> omega
  obtain ⟨hk, q1, q2, l1, l2, e1, e2, PX, PY⟩ := hPH'
  have s1 : ∀ (g : mH) (z : Int), chJ (sR r [25]) g (hsetI g (r + 25) m z) := fun g z => chJ_set (by simp [sR])
  have k23 : ∀ (g : mH) (z : Int) i, hvi (hsetI g (r + 25) m z) (r + 23) i = hvi g (r + 23) i := fun g z i => by rw [hvi_I, if_neg (by omega)]
  have k25 : ∀ (g : mH) (z : Int) i, i < m → hvi (hsetI g (r + 25) m z) (r + 25) i = hvi g (r + 25) i := fun g z i hi => by rw [hvi_I, if_neg (by omega)]
  have k25m : ∀ (g : mH) (z : Int), hvi (hsetI g (r + 25) m z) (r + 25) m = z := fun g z => by rw [hvi_I, if_pos ⟨rfl, rfl⟩]
  -- the end
  have fin : ∀ (g : mH) (b : Bool) (sg : Nat) (s' : aS) (x4 x5 x6 x7 : Option mV), chJ (sR r sAS) h g → (∀ i, i < m → hvi g (r + 23) i = hvi h (r + 23) i ∧ hvi g (r + 25) i = hvi h (r + 25) i) → hvi g (r + 23) m = (p : Int) → hvi g (r + 25) m = (sg : Int) → RA r g s' → ((sg = 1 ∧ (k = 10 ∧ b = false ∨ k = 11 ∧ b = true)) ∨ (sg = 2 ∧ (k = 10 ∨ k = 11))) → evB (tsF L T here pr v w P) e s = (b, s') → wp G d 137 100026 [some (.inr (.inl (some r))), some (.inl (n : Int)), some (.inl ((m : Int) + 1)), some (.inl (b01 b)), x4, x5, x6, x7] [] g 0 0 C X := by
    intro g b sg s' x4 x5 x6 x7 cg fg g23 g25 Ag hkb hev
    have HRg := RN_ch cg HR
    refine ak_head (k := (k : Int)) (m := m) (p := p) HRg (by omega) (by omega) g23 g25 (by omega) (by rw [chJ_row cg (by omega) (by simp [sAS])]; exact hk) ?_
    refine ak_one (m := m) (p := p) (k := k) (sg := sg) (RN_ch (s1 g _) HRg) (by omega) hkb (fun x4 x5 x6 x7 => ?_)
    have := hC (hsetI g (r + 25) m ((sg : Int) + 1)) x4 x5 x6 x7 (chJ_trans cg (chJ_sub (s1 g _) (by simp [sAS]))) (fun i hi => by rw [k23, k25 _ _ _ hi]; exact fg i hi)
    rw [hev] at this
    exact this (RA_ch (s1 g _) (by simp) Ag)
  refine ak_head (k := (k : Int)) (m := m) (p := p) HR (by omega) (by omega) h23 h25 (by omega) hk ?_
  refine ak_push (m := m) (p := p) (q := q1) (k := k) (RN_ch (s1 h _) HR) (by omega) (by omega) (by omega) (by rw [hvi_I, if_neg (by omega)]; exact e1) (fun x4 x5 x6 x7 => ?_)
  refine ak_child (p := p) (sg := 1) ihx (chJ_sub (s1 h _) (by simp [sAS])) (RA_ch (s1 h _) (by simp) HA) HE (by omega) (by omega) PX hal'.1 (fun i hi => ⟨k23 _ _ _, k25 _ _ _ hi⟩) (by rw [k23]; exact h23) (by rw [k25m]; rfl) (fun h2 x4 x5 x6 x7 c2 f2 g23 g25 A2 => ?_)
  cases hx : evB (tsF L T here pr v w P) x s with
  | mk b1 s2 =>
    rw [hx] at A2
    simp only at A2
    by_cases hgo : k = 10 ∧ b1 = true ∨ k = 11 ∧ b1 = false
    · have HR2 := RN_ch c2 HR
      simp only
      refine ak_head (k := (k : Int)) (m := m) (p := p) HR2 (by omega) (by omega) g23 g25 (by omega) (by rw [chJ_row c2 (by omega) (by simp [sAS])]; exact hk) ?_
      refine ak_two (m := m) (p := p) (q := q2) (k := k) (RN_ch (s1 h2 _) HR2) (by omega) (by omega) hgo (by rw [hvi_I, if_neg (by omega), chJ_row c2 (by omega) (by simp [sAS])]; exact e2) (fun x4 x5 x6 x7 => ?_)
      refine ak_child (p := p) (sg := 2) ihy (h := h) (chJ_trans c2 (chJ_sub (s1 h2 _) (by simp [sAS]))) (RA_ch (s1 h2 _) (by simp) A2) HE (by omega) (by omega) PY hal'.2 (fun i hi => by rw [k23, k25 _ _ _ hi]; exact f2 i hi) (by rw [k23]; exact g23) (by rw [k25m]; rfl) (fun h3 x4 x5 x6 x7 c3 f3 m23 m25 A3 => ?_)
      refine fin h3 (evB (tsF L T here pr v w P) y s2).1 2 (evB (tsF L T here pr v w P) y s2).2 x4 x5 x6 x7 c3 f3 m23 m25 A3 (Or.inr ⟨rfl, hk9⟩) ?_
      rcases hke with ⟨rfl, rfl⟩ | ⟨rfl, rfl⟩
      · have hb1 : b1 = true := by rcases hgo with q | q; exact q.2; omega
        simp only [evB, hx, hb1, cond_true]
      · have hb1 : b1 = false := by rcases hgo with q | q; omega; exact q.2
        simp only [evB, hx, hb1, cond_false]
    · simp only
      refine fin h2 b1 1 s2 x4 x5 x6 x7 c2 f2 g23 g25 A2 (Or.inl ⟨rfl, ?_⟩) ?_
      · cases b1 with
        | false => rcases hk9 with q | q; exact Or.inl ⟨q, rfl⟩; exact absurd (Or.inr ⟨q, rfl⟩) hgo
        | true => rcases hk9 with q | q; exact absurd (Or.inl ⟨q, rfl⟩) hgo; exact Or.inr ⟨q, rfl⟩
      · rcases hke with ⟨rfl, rfl⟩ | ⟨rfl, rfl⟩
        · have hb1 : b1 = false := by cases b1 with
            | false => rfl
            | true => exact absurd (Or.inl ⟨rfl, rfl⟩) hgo
          simp only [evB, hx, hb1, cond_false]
        · have hb1 : b1 = true := by cases b1 with
            | true => rfl
            | false => exact absurd (Or.inr ⟨rfl, rfl⟩) hgo
          simp only [evB, hx, hb1, cond_true]
theorem askE {G : Nat → Nat} {d r n fr nn N here : Nat} {C : mQ} {X : mX} {L : List Int} {T : aT} {Es : Nat → List aE} {pr : Int} {v : aN} {w P : List Int} (hd : 5 ≤ d) (hT : T n = some v) (hn : n < 48) (hb : (0 ≤ pr ∧ pr ≤ 999999) ∧ 0 ≤ nD v ∧ nD v ≤ 999999) (hw : w.length = nn) (hsg : ∀ i, i < w.length → lf w i = lf P (fr + i)) (hnn : nn ≤ 14) (hfn : fr + nn ≤ P.length) (bP : bd P) (hPl : P.length ≤ 1000) (hN : N ≤ 58) : ∀ e : bT, AC G d r n L T Es here pr P w v fr nn N C X e := by
  have hd0 : (0 < d) = True := eq_true (by omega)
  intro e
  induction e with
  | num z => intro p m h s x3 x4 x5 x6 x7 _ _ hPH; exact hPH.elim
  | natCast z => intro p m h s x3 x4 x5 x6 x7 _ _ hPH; exact hPH.elim
  | intCast z => intro p m h s x3 x4 x5 x6 x7 _ _ hPH; exact hPH.elim
  | var z => intro p m h s x3 x4 x5 x6 x7 _ _ hPH; exact hPH.elim
  | pow x z ih => intro p m h s x3 x4 x5 x6 x7 _ _ hPH; exact hPH.elim
  | mul x y ihx ihy => exact ak_bin hN (Or.inl ⟨rfl, rfl⟩) ihx ihy
  | add x y ihx ihy => exact ak_bin hN (Or.inr ⟨rfl, rfl⟩) ihx ihy
  | neg x ihx =>
    intro p m h s x3 x4 x5 x6 x7 hpN hmp hPH hal HE HA h23 h25 hC
    have HR := HE.1.1
    obtain ⟨hk, q1, l1, e1, PX⟩ := hPH
    have s1 : ∀ (g : mH) (z : Int), chJ (sR r [25]) g (hsetI g (r + 25) m z) := fun g z => chJ_set (by simp [sR])
    have k23 : ∀ (g : mH) (z : Int) i, hvi (hsetI g (r + 25) m z) (r + 23) i = hvi g (r + 23) i := fun g z i => by rw [hvi_I, if_neg (by omega)]
    have k25 : ∀ (g : mH) (z : Int) i, i < m → hvi (hsetI g (r + 25) m z) (r + 25) i = hvi g (r + 25) i := fun g z i hi => by rw [hvi_I, if_neg (by omega)]
    have k25m : ∀ (g : mH) (z : Int), hvi (hsetI g (r + 25) m z) (r + 25) m = z := fun g z => by rw [hvi_I, if_pos ⟨rfl, rfl⟩]
    refine ak_head (k := 9) (m := m) (p := p) HR (by omega) (by omega) h23 h25 (by omega) hk ?_
    refine ak_push (m := m) (p := p) (q := q1) (k := 9) (RN_ch (s1 h _) HR) (by omega) (by omega) (by omega) (by rw [hvi_I, if_neg (by omega)]; exact e1) (fun x4 x5 x6 x7 => ?_)
    refine ak_child (p := p) (sg := 1) ihx (chJ_sub (s1 h _) (by simp [sAS])) (RA_ch (s1 h _) (by simp) HA) HE (by omega) (by omega) PX hal (fun i hi => ⟨k23 _ _ _, k25 _ _ _ hi⟩) (by rw [k23]; exact h23) (by rw [k25m]; rfl) (fun h2 x4 x5 x6 x7 c2 f2 g23 g25 A2 => ?_)
    have HR2 := RN_ch c2 HR
    refine ak_head (k := 9) (m := m) (p := p) HR2 (by omega) (by omega) g23 g25 (by omega) (by rw [chJ_row c2 (by omega) (by simp [sAS])]; exact hk) ?_
    refine ak_not (m := m) (p := p) (RN_ch (s1 h2 _) HR2) (by omega) (fun x4 x5 x6 x7 => ?_)
    exact hC _ x4 x5 x6 x7 (chJ_trans c2 (chJ_sub (s1 h2 _) (by simp [sAS]))) (fun i hi => by rw [k23, k25 _ _ _ hi]; exact f2 i hi) (RA_ch (s1 h2 _) (by simp) A2)
  | sub x y ihx ihy =>
    intro p m h s x3 x4 x5 x6 x7 hpN hmp hPH hal HE HA h23 h25 hC
    have HR := HE.1.1
    obtain ⟨hk, hk2, hf⟩ := hPH
    have hal : tkO L (lfD x y) := hal
    have ev : evB (tsF L T here pr v w P) (.sub x y) s = tsF L T here pr v w P (lfD x y) s := rfl
    have hPH0 := hf
    rw [ev] at hC
    generalize lfD x y = t at *
    have s1 : ∀ (g : mH) (z : Int), chJ (sR r [25]) g (hsetI g (r + 25) m z) := fun g z => chJ_set (by simp [sR])
    have c1 : chJ (sR r sAS) h (hsetI h (r + 25) m (0 + 1)) := chJ_sub (s1 h _) (by simp [sAS])
    have E1 := AE_ch c1 HE
    have A1 := RA_ch (s1 h (0 + 1)) (by simp) HA
    have k19 : hvi (hsetI h (r + 25) m (0 + 1)) (r + 19) p = (t.1 : Int) - 6 := by rw [hvi_I, if_neg (by omega)]; exact hk
    have k20 : t.1 < 12 → hvi (hsetI h (r + 25) m (0 + 1)) (r + 20) p = (t.2.1 : Int) := fun q => by rw [hvi_I, if_neg (by omega)]; exact hf q
    have k22 : t.1 = 11 → hvi (hsetI h (r + 25) m (0 + 1)) (r + 22) p = dyW T here L t.2.1 := fun q => by
      have := E1.2.2 p hpN (by rw [k19, q]; rfl)
      rw [k20 (by omega)] at this
      simpa using this
    refine ak_head (k := (t.1 : Int) - 6) (m := m) (p := p) HR (by omega) (by omega) h23 h25 (by omega) hk ?_
    have HR1 := E1.1.1
    have q26 : ro (hsetI h (r + 25) m (0 + 1)) (r + 26) fr w := ro_seg E1.2.1.2.2.2 hsg (by omega)
    have ctt : ∀ {C : mQ} {X : mX}, (∀ h', chJ (sR r sTS) (hsetI h (r + 25) m (0 + 1)) h' → RA r h' (tsF L T here pr v w P t s).2 → C (some (.inl (b01 (tsF L T here pr v w P t s).1))) h') → callG (wp G) d 136 0 0 4 [.inr (.inl (some r)), .inl (p : Int), .inl (n : Int)] (hsetI h (r + 25) m (0 + 1)) C X := fun {C X} z => r_test (by omega) E1.1 hT hn hb E1.2.1 hw q26 hnn hfn bP hPl A1 (by omega) hal k19 k20 k22 z
    have hk9 : (t.1 : Int) - 6 < 9 := by omega
    have v25 : ∀ i, i < m → hvi (hsetI h (r + 25) m (0 + 1)) (r + 25) i = hvi h (r + 25) i := fun i hi => by rw [hvi_I, if_neg (by omega)]
    have v23 : ∀ i, hvi (hsetI h (r + 25) m (0 + 1)) (r + 23) i = hvi h (r + 23) i := fun i => by rw [hvi_I, if_neg (by omega)]
    generalize hsetI h (r + 25) m (0 + 1) = h1 at *
    have R01 := HR1.1
    generalize (t.1 : Int) - 6 = kz at *
    have e2 : (m : Int) + 1 + -1 = (m : Int) := by omega
    simp [wp_eq, wpE, mk_X11_ask, mg, mc_X11_ask, lget, lset, popN, cats, rcv, entL, isArr, kC_s, kC_n, st1, st2, st3, st4, st5, st6, st7, st8, st9, st10, st11, st12, st13, st14, st15, st16, st17, st18, st19, st20, st21, st22, st23, st24, st25, st26, st27, st28, st29, st30, st31, st32, st33, st34, st35, st36, st37, st38, st39, st40, st41, st42, st43, st44, st45, st46, st47, st48, st49, st50, st51, st52, st53, st54, st55, st56, st57, st58, st59, st60, st61, st62, st63, st64, st65, st66, st67, st68, st69, st70, st71, st72, st73, st74, st75, st76, st77, st78, st79, st80, st81, st82, st83, st84, st85, st86, st87, st88, st89, st90, st91, R01, hd0, hk9, show ¬ 9 ≤ kz by omega]
    refine ctt (fun zzh zz1 zz2 => ?_)
    have hz := fun x4 x5 x6 x7 => hC zzh x4 x5 x6 x7 (chJ_trans c1 (chJ_sub zz1 (by simp [sTS, sAS]))) (fun i hi => by rw [chJ_row zz1 (by omega) (by simp [sTS]), chJ_row zz1 (by omega) (by simp [sTS]), v25 i hi, v23]; exact ⟨rfl, rfl⟩) zz2
    (repeat' (first | with_reducible assumption | (refine And.intro ?_ ?_) | (with_reducible intro _) | (simp [wp_eq, wpE, mk_X11_ask, mg, mc_X11_ask, lget, lset, popN, cats, rcv, entL, isArr, kC_s, kC_n, st1, st2, st3, st4, st5, st6, st7, st8, st9, st10, st11, st12, st13, st14, st15, st16, st17, st18, st19, st20, st21, st22, st23, st24, st25, st26, st27, st28, st29, st30, st31, st32, st33, st34, st35, st36, st37, st38, st39, st40, st41, st42, st43, st44, st45, st46, st47, st48, st49, st50, st51, st52, st53, st54, st55, st56, st57, st58, st59, st60, st61, st62, st63, st64, st65, st66, st67, st68, st69, st70, st71, st72, st73, st74, st75, st76, st77, st78, st79, st80, st81, st82, st83, st84, st85, st86, st87, st88, st89, st90, st91, e2, inR]))) <;> (try (first | omega | exact hz))
    all_goals first | omega | exact hz _ _ _ _
