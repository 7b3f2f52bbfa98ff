/-! THE LAW: a turn -/
def lwK (G : Nat → Nat) (n0 b i bc bs : Nat) (h0 : mH) (Q : mQ) (X : mX) : Prop := ∀ (H' : mH) (s' : aQ) (bc' bs' : Nat) (v5 v6 : Option mV), IC n0 H' s' → IR n0 H' s' → IK n0 h0 H' → bc ≤ bc' + 9 → bs ≤ bs' + 352 →
  wp G 1000 161 721 [some (.inr (.inl (some b))), some (.inr (.inl (some n0))), some (.inr (.inl (some (n0 + 27)))), some (.inr (.inl (some (n0 + 59)))), some (.inl (i : Int)), v5, v6] [] H' bc' bs' Q X
theorem o_type {G : Nat → Nat} {n0 b i Ln bc bs : Nat} {h0 H : mH} {Q : mQ} {X : mX} {s : aQ} {v5 v6 : Option mV} (hb : b < n0) (hs : hty h0 b = some (50, Ln)) (hi : i + 6 ≤ Ln) (hL : Ln ≤ 3072) (hbc : 9 ≤ bc) (hbs : 352 ≤ bs) (hI : IC n0 H s) (hR : IR n0 H s) (hK : IK n0 h0 H) (hz : lwK G n0 b i bc bs h0 Q X) :
    wp G 1000 161 116 [some (.inr (.inl (some b))), some (.inr (.inl (some n0))), some (.inr (.inl (some (n0 + 27)))), some (.inr (.inl (some (n0 + 59)))), some (.inl (i : Int)), v5, v6] [] H bc bs Q X := by
  have hw := IC_wf hI
  have T0 := IC_ty hI
  have S0 := (hK.1 b hb).1.trans hs
  have V0 := (hK.1 b hb).2
  have R1 : ∀ k : Int, 0 ≤ k → k ≤ 6 → inR ((i : Int) + k) = True := fun k h1 h2 => eq_true ⟨by omega, by omega⟩
  have E1 : ∀ k : Int, 0 ≤ k → k ≤ 5 → (0 ≤ (i : Int) + k ∧ (i : Int) + k < (Ln : Int)) = True := fun k h1 h2 => eq_true ⟨by omega, by omega⟩
  have F1 : (1 ≤ bc ∧ 6 ≤ bs) = True := eq_true ⟨by omega, by omega⟩
  simp [wp_ne 721, wpE, mk_L_law, mg, mc_L_law, lget, lset, popN, cats, rcv, entL, isArr, kC_s, kC_n, st1, st2, st3, st4, st5, st6, st7, st8, st9, st10, st11, st12, st13, st14, st15, st16, st17, st18, st19, st20, st21, st22, st23, st24, st25, st26, st27, st28, st29, st30, st31, st32, st33, st34, st35, st36, st37, st38, st39, st40, st41, st42, st43, st44, st45, st46, st47, st48, st49, st50, st51, st52, st53, st54, st55, st56, st57, st58, st59, st60, st61, st62, st63, st64, st65, st66, st67, st68, st69, st70, st71, st72, st73, st74, st75, st76, st77, st78, st79, st80, st81, st82, st83, st84, st85, st86, st87, st88, st89, st90, st91, T0, S0, V0, R1, E1, F1, -Int.natCast_add]
  refine l_type (by omega) hI hR hK (fun hy H1 i1 i2 i3 iv => ?_) (fun hn H1 i1 i2 i3 => ?_)
  · have T1 := (IR_RN i2).1
    have S1 := (i3.1 b hb).1.trans hs
    have V1 := (i3.1 b hb).2
    simp [wp_ne 721, wpE, mk_L_law, mg, mc_L_law, lget, lset, popN, cats, rcv, entL, isArr, kC_s, kC_n, st1, st2, st3, st4, st5, st6, st7, st8, st9, st10, st11, st12, st13, st14, st15, st16, st17, st18, st19, st20, st21, st22, st23, st24, st25, st26, st27, st28, st29, st30, st31, st32, st33, st34, st35, st36, st37, st38, st39, st40, st41, st42, st43, st44, st45, st46, st47, st48, st49, st50, st51, st52, st53, st54, st55, st56, st57, st58, st59, st60, st61, st62, st63, st64, st65, st66, st67, st68, st69, st70, st71, st72, st73, st74, st75, st76, st77, st78, st79, st80, st81, st82, st83, st84, st85, st86, st87, st88, st89, st90, st91, T1, S1, V1, R1, E1, -Int.natCast_add]
    refine m_type (by omega) hw i1 i2 i3 (fun _ H2 j1 j2 j3 jt jv => ?_) (fun q => absurd hy q)
    have T2 := (IR_RN j2).1
    simp [wp_ne 721, wpE, mk_L_law, mg, mc_L_law, lget, lset, popN, cats, rcv, entL, isArr, kC_s, kC_n, st1, st2, st3, st4, st5, st6, st7, st8, st9, st10, st11, st12, st13, st14, st15, st16, st17, st18, st19, st20, st21, st22, st23, st24, st25, st26, st27, st28, st29, st30, st31, st32, st33, st34, st35, st36, st37, st38, st39, st40, st41, st42, st43, st44, st45, st46, st47, st48, st49, st50, st51, st52, st53, st54, st55, st56, st57, st58, st59, st60, st61, st62, st63, st64, st65, st66, st67, st68, st69, st70, st71, st72, st73, st74, st75, st76, st77, st78, st79, st80, st81, st82, st83, st84, st85, st86, st87, st88, st89, st90, st91, T2]
    refine r_thrown (IR_RN j2) ?_
    rw [jt]
    have T3 := j3.2
    simp [wp_ne 721, wpE, mk_L_law, mg, mc_L_law, lget, lset, popN, cats, rcv, entL, isArr, kC_s, kC_n, st1, st2, st3, st4, st5, st6, st7, st8, st9, st10, st11, st12, st13, st14, st15, st16, st17, st18, st19, st20, st21, st22, st23, st24, st25, st26, st27, st28, st29, st30, st31, st32, st33, st34, st35, st36, st37, st38, st39, st40, st41, st42, st43, st44, st45, st46, st47, st48, st49, st50, st51, st52, st53, st54, st55, st56, st57, st58, st59, st60, st61, st62, st63, st64, st65, st66, st67, st68, st69, st70, st71, st72, st73, st74, st75, st76, st77, st78, st79, st80, st81, st82, st83, st84, st85, st86, st87, st88, st89, st90, st91, T3, jv, iv, cmpL]
    exact hz H2 _ _ _ _ _ j1 j2 j3 (by omega) (by omega)
  · have T1 := (IR_RN i2).1
    have S1 := (i3.1 b hb).1.trans hs
    have V1 := (i3.1 b hb).2
    simp [wp_ne 721, wpE, mk_L_law, mg, mc_L_law, lget, lset, popN, cats, rcv, entL, isArr, kC_s, kC_n, st1, st2, st3, st4, st5, st6, st7, st8, st9, st10, st11, st12, st13, st14, st15, st16, st17, st18, st19, st20, st21, st22, st23, st24, st25, st26, st27, st28, st29, st30, st31, st32, st33, st34, st35, st36, st37, st38, st39, st40, st41, st42, st43, st44, st45, st46, st47, st48, st49, st50, st51, st52, st53, st54, st55, st56, st57, st58, st59, st60, st61, st62, st63, st64, st65, st66, st67, st68, st69, st70, st71, st72, st73, st74, st75, st76, st77, st78, st79, st80, st81, st82, st83, st84, st85, st86, st87, st88, st89, st90, st91, T1, S1, V1, R1, E1, -Int.natCast_add]
    refine m_type (by omega) hw i1 i2 i3 (fun q => absurd q hn) (fun _ H2 j1 j2 j3 jt => ?_)
    have T2 := (IR_RN j2).1
    simp [wp_ne 721, wpE, mk_L_law, mg, mc_L_law, lget, lset, popN, cats, rcv, entL, isArr, kC_s, kC_n, st1, st2, st3, st4, st5, st6, st7, st8, st9, st10, st11, st12, st13, st14, st15, st16, st17, st18, st19, st20, st21, st22, st23, st24, st25, st26, st27, st28, st29, st30, st31, st32, st33, st34, st35, st36, st37, st38, st39, st40, st41, st42, st43, st44, st45, st46, st47, st48, st49, st50, st51, st52, st53, st54, st55, st56, st57, st58, st59, st60, st61, st62, st63, st64, st65, st66, st67, st68, st69, st70, st71, st72, st73, st74, st75, st76, st77, st78, st79, st80, st81, st82, st83, st84, st85, st86, st87, st88, st89, st90, st91, T2]
    refine r_thrown (IR_RN j2) ?_
    rw [jt]
    simp [wp_ne 721, wpE, mk_L_law, mg, mc_L_law, lget, lset, popN, cats, rcv, entL, isArr, kC_s, kC_n, st1, st2, st3, st4, st5, st6, st7, st8, st9, st10, st11, st12, st13, st14, st15, st16, st17, st18, st19, st20, st21, st22, st23, st24, st25, st26, st27, st28, st29, st30, st31, st32, st33, st34, st35, st36, st37, st38, st39, st40, st41, st42, st43, st44, st45, st46, st47, st48, st49, st50, st51, st52, st53, st54, st55, st56, st57, st58, st59, st60, st61, st62, st63, st64, st65, st66, st67, st68, st69, st70, st71, st72, st73, st74, st75, st76, st77, st78, st79, st80, st81, st82, st83, st84, st85, st86, st87, st88, st89, st90, st91]
    exact hz H2 _ _ _ _ _ j1 j2 j3 (by omega) (by omega)
theorem o_erase {G : Nat → Nat} {n0 b i Ln bc bs : Nat} {h0 H : mH} {Q : mQ} {X : mX} {s : aQ} {v5 v6 : Option mV} (hb : b < n0) (hs : hty h0 b = some (50, Ln)) (hi : i + 6 ≤ Ln) (hL : Ln ≤ 3072) (hbc : 9 ≤ bc) (hbs : 352 ≤ bs) (hI : IC n0 H s) (hR : IR n0 H s) (hK : IK n0 h0 H) (hz : lwK G n0 b i bc bs h0 Q X) :
    wp G 1000 161 220 [some (.inr (.inl (some b))), some (.inr (.inl (some n0))), some (.inr (.inl (some (n0 + 27)))), some (.inr (.inl (some (n0 + 59)))), some (.inl (i : Int)), v5, v6] [] H bc bs Q X := by
  have hw := IC_wf hI
  have T0 := IC_ty hI
  have S0 := (hK.1 b hb).1.trans hs
  have V0 := (hK.1 b hb).2
  have R1 : ∀ k : Int, 0 ≤ k → k ≤ 6 → inR ((i : Int) + k) = True := fun k h1 h2 => eq_true ⟨by omega, by omega⟩
  have E1 : ∀ k : Int, 0 ≤ k → k ≤ 5 → (0 ≤ (i : Int) + k ∧ (i : Int) + k < (Ln : Int)) = True := fun k h1 h2 => eq_true ⟨by omega, by omega⟩
  simp [wp_ne 721, wpE, mk_L_law, mg, mc_L_law, lget, lset, popN, cats, rcv, entL, isArr, kC_s, kC_n, st1, st2, st3, st4, st5, st6, st7, st8, st9, st10, st11, st12, st13, st14, st15, st16, st17, st18, st19, st20, st21, st22, st23, st24, st25, st26, st27, st28, st29, st30, st31, st32, st33, st34, st35, st36, st37, st38, st39, st40, st41, st42, st43, st44, st45, st46, st47, st48, st49, st50, st51, st52, st53, st54, st55, st56, st57, st58, st59, st60, st61, st62, st63, st64, st65, st66, st67, st68, st69, st70, st71, st72, st73, st74, st75, st76, st77, st78, st79, st80, st81, st82, st83, st84, st85, st86, st87, st88, st89, st90, st91, T0, S0, V0, R1, E1, -Int.natCast_add]
  refine k_erase (by omega) hI hR hK (fun H1 i1 i2 i3 => ?_)
  have T1 := (IR_RN i2).1
  have S1 := (i3.1 b hb).1.trans hs
  have V1 := (i3.1 b hb).2
  simp [wp_ne 721, wpE, mk_L_law, mg, mc_L_law, lget, lset, popN, cats, rcv, entL, isArr, kC_s, kC_n, st1, st2, st3, st4, st5, st6, st7, st8, st9, st10, st11, st12, st13, st14, st15, st16, st17, st18, st19, st20, st21, st22, st23, st24, st25, st26, st27, st28, st29, st30, st31, st32, st33, st34, st35, st36, st37, st38, st39, st40, st41, st42, st43, st44, st45, st46, st47, st48, st49, st50, st51, st52, st53, st54, st55, st56, st57, st58, st59, st60, st61, st62, st63, st64, st65, st66, st67, st68, st69, st70, st71, st72, st73, st74, st75, st76, st77, st78, st79, st80, st81, st82, st83, st84, st85, st86, st87, st88, st89, st90, st91, T1, S1, V1, R1, E1, -Int.natCast_add]
  refine m_erase hw i1 i2 i3 (fun H2 j1 j2 j3 => ?_)
  simp [wp_ne 721, wpE, mk_L_law, mg, mc_L_law, lget, lset, popN, cats, rcv, entL, isArr, kC_s, kC_n, st1, st2, st3, st4, st5, st6, st7, st8, st9, st10, st11, st12, st13, st14, st15, st16, st17, st18, st19, st20, st21, st22, st23, st24, st25, st26, st27, st28, st29, st30, st31, st32, st33, st34, st35, st36, st37, st38, st39, st40, st41, st42, st43, st44, st45, st46, st47, st48, st49, st50, st51, st52, st53, st54, st55, st56, st57, st58, st59, st60, st61, st62, st63, st64, st65, st66, st67, st68, st69, st70, st71, st72, st73, st74, st75, st76, st77, st78, st79, st80, st81, st82, st83, st84, st85, st86, st87, st88, st89, st90, st91]
  exact hz H2 _ _ _ _ _ j1 j2 j3 (by omega) (by omega)
theorem o_make {G : Nat → Nat} {n0 b i Ln bc bs : Nat} {h0 H : mH} {Q : mQ} {X : mX} {s : aQ} {v5 v6 : Option mV} (hb : b < n0) (hs : hty h0 b = some (50, Ln)) (hi : i + 6 ≤ Ln) (hL : Ln ≤ 3072) (hbc : 9 ≤ bc) (hbs : 352 ≤ bs) (hI : IC n0 H s) (hR : IR n0 H s) (hK : IK n0 h0 H) (hz : lwK G n0 b i bc bs h0 Q X) :
    wp G 1000 161 233 [some (.inr (.inl (some b))), some (.inr (.inl (some n0))), some (.inr (.inl (some (n0 + 27)))), some (.inr (.inl (some (n0 + 59)))), some (.inl (i : Int)), v5, v6] [] H bc bs Q X := by
  have hw := IC_wf hI
  have T0 := IC_ty hI
  have S0 := (hK.1 b hb).1.trans hs
  have V0 := (hK.1 b hb).2
  have R1 : ∀ k : Int, 0 ≤ k → k ≤ 6 → inR ((i : Int) + k) = True := fun k h1 h2 => eq_true ⟨by omega, by omega⟩
  have E1 : ∀ k : Int, 0 ≤ k → k ≤ 5 → (0 ≤ (i : Int) + k ∧ (i : Int) + k < (Ln : Int)) = True := fun k h1 h2 => eq_true ⟨by omega, by omega⟩
  have F1 : (9 ≤ bc ∧ 352 ≤ bs) = True := eq_true ⟨by omega, by omega⟩
  by_cases hf : hvi h0 b (i + 1) = 0
  · simp [wp_ne 721, wpE, mk_L_law, mg, mc_L_law, lget, lset, popN, cats, rcv, entL, isArr, kC_s, kC_n, st1, st2, st3, st4, st5, st6, st7, st8, st9, st10, st11, st12, st13, st14, st15, st16, st17, st18, st19, st20, st21, st22, st23, st24, st25, st26, st27, st28, st29, st30, st31, st32, st33, st34, st35, st36, st37, st38, st39, st40, st41, st42, st43, st44, st45, st46, st47, st48, st49, st50, st51, st52, st53, st54, st55, st56, st57, st58, st59, st60, st61, st62, st63, st64, st65, st66, st67, st68, st69, st70, st71, st72, st73, st74, st75, st76, st77, st78, st79, st80, st81, st82, st83, st84, st85, st86, st87, st88, st89, st90, st91, T0, S0, V0, R1, E1, F1, hf, -Int.natCast_add]
    refine l_make (dir := false) (by omega) hI hR hK (fun hy H1 i1 i2 i3 iv => ?_) (fun hn H1 i1 i2 i3 => ?_)
    · have T1 := (IR_RN i2).1
      have S1 := (i3.1 b hb).1.trans hs
      have V1 := (i3.1 b hb).2
      simp [wp_ne 721, wpE, mk_L_law, mg, mc_L_law, lget, lset, popN, cats, rcv, entL, isArr, kC_s, kC_n, st1, st2, st3, st4, st5, st6, st7, st8, st9, st10, st11, st12, st13, st14, st15, st16, st17, st18, st19, st20, st21, st22, st23, st24, st25, st26, st27, st28, st29, st30, st31, st32, st33, st34, st35, st36, st37, st38, st39, st40, st41, st42, st43, st44, st45, st46, st47, st48, st49, st50, st51, st52, st53, st54, st55, st56, st57, st58, st59, st60, st61, st62, st63, st64, st65, st66, st67, st68, st69, st70, st71, st72, st73, st74, st75, st76, st77, st78, st79, st80, st81, st82, st83, st84, st85, st86, st87, st88, st89, st90, st91, T1, S1, V1, R1, E1, hf, -Int.natCast_add]
      refine m_make (dir := false) (by omega) hw i1 i2 i3 (fun _ H2 j1 j2 j3 jt jv => ?_) (fun q => absurd hy q)
      have T2 := (IR_RN j2).1
      simp [wp_ne 721, wpE, mk_L_law, mg, mc_L_law, lget, lset, popN, cats, rcv, entL, isArr, kC_s, kC_n, st1, st2, st3, st4, st5, st6, st7, st8, st9, st10, st11, st12, st13, st14, st15, st16, st17, st18, st19, st20, st21, st22, st23, st24, st25, st26, st27, st28, st29, st30, st31, st32, st33, st34, st35, st36, st37, st38, st39, st40, st41, st42, st43, st44, st45, st46, st47, st48, st49, st50, st51, st52, st53, st54, st55, st56, st57, st58, st59, st60, st61, st62, st63, st64, st65, st66, st67, st68, st69, st70, st71, st72, st73, st74, st75, st76, st77, st78, st79, st80, st81, st82, st83, st84, st85, st86, st87, st88, st89, st90, st91, T2]
      refine r_thrown (IR_RN j2) ?_
      rw [jt]
      have T3 := j3.2
      simp [wp_ne 721, wpE, mk_L_law, mg, mc_L_law, lget, lset, popN, cats, rcv, entL, isArr, kC_s, kC_n, st1, st2, st3, st4, st5, st6, st7, st8, st9, st10, st11, st12, st13, st14, st15, st16, st17, st18, st19, st20, st21, st22, st23, st24, st25, st26, st27, st28, st29, st30, st31, st32, st33, st34, st35, st36, st37, st38, st39, st40, st41, st42, st43, st44, st45, st46, st47, st48, st49, st50, st51, st52, st53, st54, st55, st56, st57, st58, st59, st60, st61, st62, st63, st64, st65, st66, st67, st68, st69, st70, st71, st72, st73, st74, st75, st76, st77, st78, st79, st80, st81, st82, st83, st84, st85, st86, st87, st88, st89, st90, st91, T3, jv, iv, cmpL]
      exact hz H2 _ _ _ _ _ j1 j2 j3 (by omega) (by omega)
    · have T1 := (IR_RN i2).1
      have S1 := (i3.1 b hb).1.trans hs
      have V1 := (i3.1 b hb).2
      simp [wp_ne 721, wpE, mk_L_law, mg, mc_L_law, lget, lset, popN, cats, rcv, entL, isArr, kC_s, kC_n, st1, st2, st3, st4, st5, st6, st7, st8, st9, st10, st11, st12, st13, st14, st15, st16, st17, st18, st19, st20, st21, st22, st23, st24, st25, st26, st27, st28, st29, st30, st31, st32, st33, st34, st35, st36, st37, st38, st39, st40, st41, st42, st43, st44, st45, st46, st47, st48, st49, st50, st51, st52, st53, st54, st55, st56, st57, st58, st59, st60, st61, st62, st63, st64, st65, st66, st67, st68, st69, st70, st71, st72, st73, st74, st75, st76, st77, st78, st79, st80, st81, st82, st83, st84, st85, st86, st87, st88, st89, st90, st91, T1, S1, V1, R1, E1, hf, -Int.natCast_add]
      refine m_make (dir := false) (by omega) hw i1 i2 i3 (fun q => absurd q hn) (fun _ H2 j1 j2 j3 jt => ?_)
      have T2 := (IR_RN j2).1
      simp [wp_ne 721, wpE, mk_L_law, mg, mc_L_law, lget, lset, popN, cats, rcv, entL, isArr, kC_s, kC_n, st1, st2, st3, st4, st5, st6, st7, st8, st9, st10, st11, st12, st13, st14, st15, st16, st17, st18, st19, st20, st21, st22, st23, st24, st25, st26, st27, st28, st29, st30, st31, st32, st33, st34, st35, st36, st37, st38, st39, st40, st41, st42, st43, st44, st45, st46, st47, st48, st49, st50, st51, st52, st53, st54, st55, st56, st57, st58, st59, st60, st61, st62, st63, st64, st65, st66, st67, st68, st69, st70, st71, st72, st73, st74, st75, st76, st77, st78, st79, st80, st81, st82, st83, st84, st85, st86, st87, st88, st89, st90, st91, T2]
      refine r_thrown (IR_RN j2) ?_
      rw [jt]
      simp [wp_ne 721, wpE, mk_L_law, mg, mc_L_law, lget, lset, popN, cats, rcv, entL, isArr, kC_s, kC_n, st1, st2, st3, st4, st5, st6, st7, st8, st9, st10, st11, st12, st13, st14, st15, st16, st17, st18, st19, st20, st21, st22, st23, st24, st25, st26, st27, st28, st29, st30, st31, st32, st33, st34, st35, st36, st37, st38, st39, st40, st41, st42, st43, st44, st45, st46, st47, st48, st49, st50, st51, st52, st53, st54, st55, st56, st57, st58, st59, st60, st61, st62, st63, st64, st65, st66, st67, st68, st69, st70, st71, st72, st73, st74, st75, st76, st77, st78, st79, st80, st81, st82, st83, st84, st85, st86, st87, st88, st89, st90, st91]
      exact hz H2 _ _ _ _ _ j1 j2 j3 (by omega) (by omega)
  · simp [wp_ne 721, wpE, mk_L_law, mg, mc_L_law, lget, lset, popN, cats, rcv, entL, isArr, kC_s, kC_n, st1, st2, st3, st4, st5, st6, st7, st8, st9, st10, st11, st12, st13, st14, st15, st16, st17, st18, st19, st20, st21, st22, st23, st24, st25, st26, st27, st28, st29, st30, st31, st32, st33, st34, st35, st36, st37, st38, st39, st40, st41, st42, st43, st44, st45, st46, st47, st48, st49, st50, st51, st52, st53, st54, st55, st56, st57, st58, st59, st60, st61, st62, st63, st64, st65, st66, st67, st68, st69, st70, st71, st72, st73, st74, st75, st76, st77, st78, st79, st80, st81, st82, st83, st84, st85, st86, st87, st88, st89, st90, st91, T0, S0, V0, R1, E1, F1, hf, -Int.natCast_add]
    refine l_make (dir := true) (by omega) hI hR hK (fun hy H1 i1 i2 i3 iv => ?_) (fun hn H1 i1 i2 i3 => ?_)
    · have T1 := (IR_RN i2).1
      have S1 := (i3.1 b hb).1.trans hs
      have V1 := (i3.1 b hb).2
      simp [wp_ne 721, wpE, mk_L_law, mg, mc_L_law, lget, lset, popN, cats, rcv, entL, isArr, kC_s, kC_n, st1, st2, st3, st4, st5, st6, st7, st8, st9, st10, st11, st12, st13, st14, st15, st16, st17, st18, st19, st20, st21, st22, st23, st24, st25, st26, st27, st28, st29, st30, st31, st32, st33, st34, st35, st36, st37, st38, st39, st40, st41, st42, st43, st44, st45, st46, st47, st48, st49, st50, st51, st52, st53, st54, st55, st56, st57, st58, st59, st60, st61, st62, st63, st64, st65, st66, st67, st68, st69, st70, st71, st72, st73, st74, st75, st76, st77, st78, st79, st80, st81, st82, st83, st84, st85, st86, st87, st88, st89, st90, st91, T1, S1, V1, R1, E1, hf, -Int.natCast_add]
      refine m_make (dir := true) (by omega) hw i1 i2 i3 (fun _ H2 j1 j2 j3 jt jv => ?_) (fun q => absurd hy q)
      have T2 := (IR_RN j2).1
      simp [wp_ne 721, wpE, mk_L_law, mg, mc_L_law, lget, lset, popN, cats, rcv, entL, isArr, kC_s, kC_n, st1, st2, st3, st4, st5, st6, st7, st8, st9, st10, st11, st12, st13, st14, st15, st16, st17, st18, st19, st20, st21, st22, st23, st24, st25, st26, st27, st28, st29, st30, st31, st32, st33, st34, st35, st36, st37, st38, st39, st40, st41, st42, st43, st44, st45, st46, st47, st48, st49, st50, st51, st52, st53, st54, st55, st56, st57, st58, st59, st60, st61, st62, st63, st64, st65, st66, st67, st68, st69, st70, st71, st72, st73, st74, st75, st76, st77, st78, st79, st80, st81, st82, st83, st84, st85, st86, st87, st88, st89, st90, st91, T2]
      refine r_thrown (IR_RN j2) ?_
      rw [jt]
      have T3 := j3.2
      simp [wp_ne 721, wpE, mk_L_law, mg, mc_L_law, lget, lset, popN, cats, rcv, entL, isArr, kC_s, kC_n, st1, st2, st3, st4, st5, st6, st7, st8, st9, st10, st11, st12, st13, st14, st15, st16, st17, st18, st19, st20, st21, st22, st23, st24, st25, st26, st27, st28, st29, st30, st31, st32, st33, st34, st35, st36, st37, st38, st39, st40, st41, st42, st43, st44, st45, st46, st47, st48, st49, st50, st51, st52, st53, st54, st55, st56, st57, st58, st59, st60, st61, st62, st63, st64, st65, st66, st67, st68, st69, st70, st71, st72, st73, st74, st75, st76, st77, st78, st79, st80, st81, st82, st83, st84, st85, st86, st87, st88, st89, st90, st91, T3, jv, iv, cmpL]
      exact hz H2 _ _ _ _ _ j1 j2 j3 (by omega) (by omega)
    · have T1 := (IR_RN i2).1
      have S1 := (i3.1 b hb).1.trans hs
      have V1 := (i3.1 b hb).2
      simp [wp_ne 721, wpE, mk_L_law, mg, mc_L_law, lget, lset, popN, cats, rcv, entL, isArr, kC_s, kC_n, st1, st2, st3, st4, st5, st6, st7, st8, st9, st10, st11, st12, st13, st14, st15, st16, st17, st18, st19, st20, st21, st22, st23, st24, st25, st26, st27, st28, st29, st30, st31, st32, st33, st34, st35, st36, st37, st38, st39, st40, st41, st42, st43, st44, st45, st46, st47, st48, st49, st50, st51, st52, st53, st54, st55, st56, st57, st58, st59, st60, st61, st62, st63, st64, st65, st66, st67, st68, st69, st70, st71, st72, st73, st74, st75, st76, st77, st78, st79, st80, st81, st82, st83, st84, st85, st86, st87, st88, st89, st90, st91, T1, S1, V1, R1, E1, hf, -Int.natCast_add]
      refine m_make (dir := true) (by omega) hw i1 i2 i3 (fun q => absurd q hn) (fun _ H2 j1 j2 j3 jt => ?_)
      have T2 := (IR_RN j2).1
      simp [wp_ne 721, wpE, mk_L_law, mg, mc_L_law, lget, lset, popN, cats, rcv, entL, isArr, kC_s, kC_n, st1, st2, st3, st4, st5, st6, st7, st8, st9, st10, st11, st12, st13, st14, st15, st16, st17, st18, st19, st20, st21, st22, st23, st24, st25, st26, st27, st28, st29, st30, st31, st32, st33, st34, st35, st36, st37, st38, st39, st40, st41, st42, st43, st44, st45, st46, st47, st48, st49, st50, st51, st52, st53, st54, st55, st56, st57, st58, st59, st60, st61, st62, st63, st64, st65, st66, st67, st68, st69, st70, st71, st72, st73, st74, st75, st76, st77, st78, st79, st80, st81, st82, st83, st84, st85, st86, st87, st88, st89, st90, st91, T2]
      refine r_thrown (IR_RN j2) ?_
      rw [jt]
      simp [wp_ne 721, wpE, mk_L_law, mg, mc_L_law, lget, lset, popN, cats, rcv, entL, isArr, kC_s, kC_n, st1, st2, st3, st4, st5, st6, st7, st8, st9, st10, st11, st12, st13, st14, st15, st16, st17, st18, st19, st20, st21, st22, st23, st24, st25, st26, st27, st28, st29, st30, st31, st32, st33, st34, st35, st36, st37, st38, st39, st40, st41, st42, st43, st44, st45, st46, st47, st48, st49, st50, st51, st52, st53, st54, st55, st56, st57, st58, st59, st60, st61, st62, st63, st64, st65, st66, st67, st68, st69, st70, st71, st72, st73, st74, st75, st76, st77, st78, st79, st80, st81, st82, st83, st84, st85, st86, st87, st88, st89, st90, st91]
      exact hz H2 _ _ _ _ _ j1 j2 j3 (by omega) (by omega)
theorem o_link {G : Nat → Nat} {n0 b i Ln bc bs : Nat} {h0 H : mH} {Q : mQ} {X : mX} {s : aQ} {v5 v6 : Option mV} (hb : b < n0) (hs : hty h0 b = some (50, Ln)) (hi : i + 6 ≤ Ln) (hL : Ln ≤ 3072) (hbc : 9 ≤ bc) (hbs : 352 ≤ bs) (hI : IC n0 H s) (hR : IR n0 H s) (hK : IK n0 h0 H) (hz : lwK G n0 b i bc bs h0 Q X) :
    wp G 1000 161 329 [some (.inr (.inl (some b))), some (.inr (.inl (some n0))), some (.inr (.inl (some (n0 + 27)))), some (.inr (.inl (some (n0 + 59)))), some (.inl (i : Int)), v5, v6] [] H bc bs Q X := by
  have hw := IC_wf hI
  have T0 := IC_ty hI
  have S0 := (hK.1 b hb).1.trans hs
  have V0 := (hK.1 b hb).2
  have R1 : ∀ k : Int, 0 ≤ k → k ≤ 6 → inR ((i : Int) + k) = True := fun k h1 h2 => eq_true ⟨by omega, by omega⟩
  have E1 : ∀ k : Int, 0 ≤ k → k ≤ 5 → (0 ≤ (i : Int) + k ∧ (i : Int) + k < (Ln : Int)) = True := fun k h1 h2 => eq_true ⟨by omega, by omega⟩
  have F1 : (6 ≤ bc ∧ 230 ≤ bs) = True := eq_true ⟨by omega, by omega⟩
  simp [wp_ne 721, wpE, mk_L_law, mg, mc_L_law, lget, lset, popN, cats, rcv, entL, isArr, kC_s, kC_n, st1, st2, st3, st4, st5, st6, st7, st8, st9, st10, st11, st12, st13, st14, st15, st16, st17, st18, st19, st20, st21, st22, st23, st24, st25, st26, st27, st28, st29, st30, st31, st32, st33, st34, st35, st36, st37, st38, st39, st40, st41, st42, st43, st44, st45, st46, st47, st48, st49, st50, st51, st52, st53, st54, st55, st56, st57, st58, st59, st60, st61, st62, st63, st64, st65, st66, st67, st68, st69, st70, st71, st72, st73, st74, st75, st76, st77, st78, st79, st80, st81, st82, st83, st84, st85, st86, st87, st88, st89, st90, st91, T0, S0, V0, R1, E1, F1, -Int.natCast_add]
  refine l_link (by omega) hI hR hK (fun hy H1 i1 i2 i3 iv => ?_) (fun hn H1 i1 i2 i3 => ?_)
  · have T1 := (IR_RN i2).1
    have S1 := (i3.1 b hb).1.trans hs
    have V1 := (i3.1 b hb).2
    simp [wp_ne 721, wpE, mk_L_law, mg, mc_L_law, lget, lset, popN, cats, rcv, entL, isArr, kC_s, kC_n, st1, st2, st3, st4, st5, st6, st7, st8, st9, st10, st11, st12, st13, st14, st15, st16, st17, st18, st19, st20, st21, st22, st23, st24, st25, st26, st27, st28, st29, st30, st31, st32, st33, st34, st35, st36, st37, st38, st39, st40, st41, st42, st43, st44, st45, st46, st47, st48, st49, st50, st51, st52, st53, st54, st55, st56, st57, st58, st59, st60, st61, st62, st63, st64, st65, st66, st67, st68, st69, st70, st71, st72, st73, st74, st75, st76, st77, st78, st79, st80, st81, st82, st83, st84, st85, st86, st87, st88, st89, st90, st91, T1, S1, V1, R1, E1, -Int.natCast_add]
    refine m_link (by omega) hw i1 i2 i3 (fun _ H2 j1 j2 j3 jt jv => ?_) (fun q => absurd hy q)
    have T2 := (IR_RN j2).1
    simp [wp_ne 721, wpE, mk_L_law, mg, mc_L_law, lget, lset, popN, cats, rcv, entL, isArr, kC_s, kC_n, st1, st2, st3, st4, st5, st6, st7, st8, st9, st10, st11, st12, st13, st14, st15, st16, st17, st18, st19, st20, st21, st22, st23, st24, st25, st26, st27, st28, st29, st30, st31, st32, st33, st34, st35, st36, st37, st38, st39, st40, st41, st42, st43, st44, st45, st46, st47, st48, st49, st50, st51, st52, st53, st54, st55, st56, st57, st58, st59, st60, st61, st62, st63, st64, st65, st66, st67, st68, st69, st70, st71, st72, st73, st74, st75, st76, st77, st78, st79, st80, st81, st82, st83, st84, st85, st86, st87, st88, st89, st90, st91, T2]
    refine r_thrown (IR_RN j2) ?_
    rw [jt]
    have T3 := j3.2
    simp [wp_ne 721, wpE, mk_L_law, mg, mc_L_law, lget, lset, popN, cats, rcv, entL, isArr, kC_s, kC_n, st1, st2, st3, st4, st5, st6, st7, st8, st9, st10, st11, st12, st13, st14, st15, st16, st17, st18, st19, st20, st21, st22, st23, st24, st25, st26, st27, st28, st29, st30, st31, st32, st33, st34, st35, st36, st37, st38, st39, st40, st41, st42, st43, st44, st45, st46, st47, st48, st49, st50, st51, st52, st53, st54, st55, st56, st57, st58, st59, st60, st61, st62, st63, st64, st65, st66, st67, st68, st69, st70, st71, st72, st73, st74, st75, st76, st77, st78, st79, st80, st81, st82, st83, st84, st85, st86, st87, st88, st89, st90, st91, T3, jv, iv, cmpL]
    exact hz H2 _ _ _ _ _ j1 j2 j3 (by omega) (by omega)
  · have T1 := (IR_RN i2).1
    have S1 := (i3.1 b hb).1.trans hs
    have V1 := (i3.1 b hb).2
    simp [wp_ne 721, wpE, mk_L_law, mg, mc_L_law, lget, lset, popN, cats, rcv, entL, isArr, kC_s, kC_n, st1, st2, st3, st4, st5, st6, st7, st8, st9, st10, st11, st12, st13, st14, st15, st16, st17, st18, st19, st20, st21, st22, st23, st24, st25, st26, st27, st28, st29, st30, st31, st32, st33, st34, st35, st36, st37, st38, st39, st40, st41, st42, st43, st44, st45, st46, st47, st48, st49, st50, st51, st52, st53, st54, st55, st56, st57, st58, st59, st60, st61, st62, st63, st64, st65, st66, st67, st68, st69, st70, st71, st72, st73, st74, st75, st76, st77, st78, st79, st80, st81, st82, st83, st84, st85, st86, st87, st88, st89, st90, st91, T1, S1, V1, R1, E1, -Int.natCast_add]
    refine m_link (by omega) hw i1 i2 i3 (fun q => absurd q hn) (fun _ H2 j1 j2 j3 jt => ?_)
    have T2 := (IR_RN j2).1
    simp [wp_ne 721, wpE, mk_L_law, mg, mc_L_law, lget, lset, popN, cats, rcv, entL, isArr, kC_s, kC_n, st1, st2, st3, st4, st5, st6, st7, st8, st9, st10, st11, st12, st13, st14, st15, st16, st17, st18, st19, st20, st21, st22, st23, st24, st25, st26, st27, st28, st29, st30, st31, st32, st33, st34, st35, st36, st37, st38, st39, st40, st41, st42, st43, st44, st45, st46, st47, st48, st49, st50, st51, st52, st53, st54, st55, st56, st57, st58, st59, st60, st61, st62, st63, st64, st65, st66, st67, st68, st69, st70, st71, st72, st73, st74, st75, st76, st77, st78, st79, st80, st81, st82, st83, st84, st85, st86, st87, st88, st89, st90, st91, T2]
    refine r_thrown (IR_RN j2) ?_
    rw [jt]
    simp [wp_ne 721, wpE, mk_L_law, mg, mc_L_law, lget, lset, popN, cats, rcv, entL, isArr, kC_s, kC_n, st1, st2, st3, st4, st5, st6, st7, st8, st9, st10, st11, st12, st13, st14, st15, st16, st17, st18, st19, st20, st21, st22, st23, st24, st25, st26, st27, st28, st29, st30, st31, st32, st33, st34, st35, st36, st37, st38, st39, st40, st41, st42, st43, st44, st45, st46, st47, st48, st49, st50, st51, st52, st53, st54, st55, st56, st57, st58, st59, st60, st61, st62, st63, st64, st65, st66, st67, st68, st69, st70, st71, st72, st73, st74, st75, st76, st77, st78, st79, st80, st81, st82, st83, st84, st85, st86, st87, st88, st89, st90, st91]
    exact hz H2 _ _ _ _ _ j1 j2 j3 (by omega) (by omega)
theorem o_tie {G : Nat → Nat} {n0 b i Ln bc bs : Nat} {h0 H : mH} {Q : mQ} {X : mX} {s : aQ} {v5 v6 : Option mV} (hb : b < n0) (hs : hty h0 b = some (50, Ln)) (hi : i + 6 ≤ Ln) (hL : Ln ≤ 3072) (hbc : 9 ≤ bc) (hbs : 352 ≤ bs) (hI : IC n0 H s) (hR : IR n0 H s) (hK : IK n0 h0 H) (hz : lwK G n0 b i bc bs h0 Q X) :
    wp G 1000 161 385 [some (.inr (.inl (some b))), some (.inr (.inl (some n0))), some (.inr (.inl (some (n0 + 27)))), some (.inr (.inl (some (n0 + 59)))), some (.inl (i : Int)), v5, v6] [] H bc bs Q X := by
  have hw := IC_wf hI
  have T0 := IC_ty hI
  have S0 := (hK.1 b hb).1.trans hs
  have V0 := (hK.1 b hb).2
  have R1 : ∀ k : Int, 0 ≤ k → k ≤ 6 → inR ((i : Int) + k) = True := fun k h1 h2 => eq_true ⟨by omega, by omega⟩
  have E1 : ∀ k : Int, 0 ≤ k → k ≤ 5 → (0 ≤ (i : Int) + k ∧ (i : Int) + k < (Ln : Int)) = True := fun k h1 h2 => eq_true ⟨by omega, by omega⟩
  have F1 : (2 ≤ bc ∧ 102 ≤ bs) = True := eq_true ⟨by omega, by omega⟩
  simp [wp_ne 721, wpE, mk_L_law, mg, mc_L_law, lget, lset, popN, cats, rcv, entL, isArr, kC_s, kC_n, st1, st2, st3, st4, st5, st6, st7, st8, st9, st10, st11, st12, st13, st14, st15, st16, st17, st18, st19, st20, st21, st22, st23, st24, st25, st26, st27, st28, st29, st30, st31, st32, st33, st34, st35, st36, st37, st38, st39, st40, st41, st42, st43, st44, st45, st46, st47, st48, st49, st50, st51, st52, st53, st54, st55, st56, st57, st58, st59, st60, st61, st62, st63, st64, st65, st66, st67, st68, st69, st70, st71, st72, st73, st74, st75, st76, st77, st78, st79, st80, st81, st82, st83, st84, st85, st86, st87, st88, st89, st90, st91, T0, S0, V0, R1, E1, -Int.natCast_add, F1]
  refine k_tie (by omega) hI hR hK (fun H1 i1 i2 i3 => ?_)
  have T1 := (IR_RN i2).1
  have S1 := (i3.1 b hb).1.trans hs
  have V1 := (i3.1 b hb).2
  simp [wp_ne 721, wpE, mk_L_law, mg, mc_L_law, lget, lset, popN, cats, rcv, entL, isArr, kC_s, kC_n, st1, st2, st3, st4, st5, st6, st7, st8, st9, st10, st11, st12, st13, st14, st15, st16, st17, st18, st19, st20, st21, st22, st23, st24, st25, st26, st27, st28, st29, st30, st31, st32, st33, st34, st35, st36, st37, st38, st39, st40, st41, st42, st43, st44, st45, st46, st47, st48, st49, st50, st51, st52, st53, st54, st55, st56, st57, st58, st59, st60, st61, st62, st63, st64, st65, st66, st67, st68, st69, st70, st71, st72, st73, st74, st75, st76, st77, st78, st79, st80, st81, st82, st83, st84, st85, st86, st87, st88, st89, st90, st91, T1, S1, V1, R1, E1, -Int.natCast_add]
  refine m_tie (by omega) hw i1 i2 i3 (fun H2 j1 j2 j3 => ?_)
  simp [wp_ne 721, wpE, mk_L_law, mg, mc_L_law, lget, lset, popN, cats, rcv, entL, isArr, kC_s, kC_n, st1, st2, st3, st4, st5, st6, st7, st8, st9, st10, st11, st12, st13, st14, st15, st16, st17, st18, st19, st20, st21, st22, st23, st24, st25, st26, st27, st28, st29, st30, st31, st32, st33, st34, st35, st36, st37, st38, st39, st40, st41, st42, st43, st44, st45, st46, st47, st48, st49, st50, st51, st52, st53, st54, st55, st56, st57, st58, st59, st60, st61, st62, st63, st64, st65, st66, st67, st68, st69, st70, st71, st72, st73, st74, st75, st76, st77, st78, st79, st80, st81, st82, st83, st84, st85, st86, st87, st88, st89, st90, st91]
  exact hz H2 _ _ _ _ _ j1 j2 j3 (by omega) (by omega)
theorem o_drop {G : Nat → Nat} {n0 b i Ln bc bs : Nat} {h0 H : mH} {Q : mQ} {X : mX} {s : aQ} {v5 v6 : Option mV} (hb : b < n0) (hs : hty h0 b = some (50, Ln)) (hi : i + 6 ≤ Ln) (hL : Ln ≤ 3072) (hbc : 9 ≤ bc) (hbs : 352 ≤ bs) (hI : IC n0 H s) (hR : IR n0 H s) (hK : IK n0 h0 H) (hz : lwK G n0 b i bc bs h0 Q X) :
    wp G 1000 161 398 [some (.inr (.inl (some b))), some (.inr (.inl (some n0))), some (.inr (.inl (some (n0 + 27)))), some (.inr (.inl (some (n0 + 59)))), some (.inl (i : Int)), v5, v6] [] H bc bs Q X := by
  have hw := IC_wf hI
  have T0 := IC_ty hI
  have S0 := (hK.1 b hb).1.trans hs
  have V0 := (hK.1 b hb).2
  have R1 : ∀ k : Int, 0 ≤ k → k ≤ 6 → inR ((i : Int) + k) = True := fun k h1 h2 => eq_true ⟨by omega, by omega⟩
  have E1 : ∀ k : Int, 0 ≤ k → k ≤ 5 → (0 ≤ (i : Int) + k ∧ (i : Int) + k < (Ln : Int)) = True := fun k h1 h2 => eq_true ⟨by omega, by omega⟩
  simp [wp_ne 721, wpE, mk_L_law, mg, mc_L_law, lget, lset, popN, cats, rcv, entL, isArr, kC_s, kC_n, st1, st2, st3, st4, st5, st6, st7, st8, st9, st10, st11, st12, st13, st14, st15, st16, st17, st18, st19, st20, st21, st22, st23, st24, st25, st26, st27, st28, st29, st30, st31, st32, st33, st34, st35, st36, st37, st38, st39, st40, st41, st42, st43, st44, st45, st46, st47, st48, st49, st50, st51, st52, st53, st54, st55, st56, st57, st58, st59, st60, st61, st62, st63, st64, st65, st66, st67, st68, st69, st70, st71, st72, st73, st74, st75, st76, st77, st78, st79, st80, st81, st82, st83, st84, st85, st86, st87, st88, st89, st90, st91, T0, S0, V0, R1, E1, -Int.natCast_add]
  refine k_drop (by omega) hI hR hK (fun H1 i1 i2 i3 => ?_)
  have T1 := (IR_RN i2).1
  have S1 := (i3.1 b hb).1.trans hs
  have V1 := (i3.1 b hb).2
  simp [wp_ne 721, wpE, mk_L_law, mg, mc_L_law, lget, lset, popN, cats, rcv, entL, isArr, kC_s, kC_n, st1, st2, st3, st4, st5, st6, st7, st8, st9, st10, st11, st12, st13, st14, st15, st16, st17, st18, st19, st20, st21, st22, st23, st24, st25, st26, st27, st28, st29, st30, st31, st32, st33, st34, st35, st36, st37, st38, st39, st40, st41, st42, st43, st44, st45, st46, st47, st48, st49, st50, st51, st52, st53, st54, st55, st56, st57, st58, st59, st60, st61, st62, st63, st64, st65, st66, st67, st68, st69, st70, st71, st72, st73, st74, st75, st76, st77, st78, st79, st80, st81, st82, st83, st84, st85, st86, st87, st88, st89, st90, st91, T1, S1, V1, R1, E1, -Int.natCast_add]
  refine m_drop (by omega) hw i1 i2 i3 (fun H2 j1 j2 j3 => ?_)
  simp [wp_ne 721, wpE, mk_L_law, mg, mc_L_law, lget, lset, popN, cats, rcv, entL, isArr, kC_s, kC_n, st1, st2, st3, st4, st5, st6, st7, st8, st9, st10, st11, st12, st13, st14, st15, st16, st17, st18, st19, st20, st21, st22, st23, st24, st25, st26, st27, st28, st29, st30, st31, st32, st33, st34, st35, st36, st37, st38, st39, st40, st41, st42, st43, st44, st45, st46, st47, st48, st49, st50, st51, st52, st53, st54, st55, st56, st57, st58, st59, st60, st61, st62, st63, st64, st65, st66, st67, st68, st69, st70, st71, st72, st73, st74, st75, st76, st77, st78, st79, st80, st81, st82, st83, st84, st85, st86, st87, st88, st89, st90, st91]
  exact hz H2 _ _ _ _ _ j1 j2 j3 (by omega) (by omega)
theorem o_bits {G : Nat → Nat} {n0 b i Ln bc bs : Nat} {h0 H : mH} {Q : mQ} {X : mX} {s : aQ} {v5 v6 : Option mV} (hb : b < n0) (hs : hty h0 b = some (50, Ln)) (hi : i + 6 ≤ Ln) (hL : Ln ≤ 3072) (hbc : 9 ≤ bc) (hbs : 352 ≤ bs) (hI : IC n0 H s) (hR : IR n0 H s) (hK : IK n0 h0 H) (hz : lwK G n0 b i bc bs h0 Q X) :
    wp G 1000 161 411 [some (.inr (.inl (some b))), some (.inr (.inl (some n0))), some (.inr (.inl (some (n0 + 27)))), some (.inr (.inl (some (n0 + 59)))), some (.inl (i : Int)), v5, v6] [] H bc bs Q X := by
  have hw := IC_wf hI
  have T0 := IC_ty hI
  have S0 := (hK.1 b hb).1.trans hs
  have V0 := (hK.1 b hb).2
  have R1 : ∀ k : Int, 0 ≤ k → k ≤ 6 → inR ((i : Int) + k) = True := fun k h1 h2 => eq_true ⟨by omega, by omega⟩
  have E1 : ∀ k : Int, 0 ≤ k → k ≤ 5 → (0 ≤ (i : Int) + k ∧ (i : Int) + k < (Ln : Int)) = True := fun k h1 h2 => eq_true ⟨by omega, by omega⟩
  have F1 : (1 ≤ bc ∧ 6 ≤ bs) = True := eq_true ⟨by omega, by omega⟩
  simp [wp_ne 721, wpE, mk_L_law, mg, mc_L_law, lget, lset, popN, cats, rcv, entL, isArr, kC_s, kC_n, st1, st2, st3, st4, st5, st6, st7, st8, st9, st10, st11, st12, st13, st14, st15, st16, st17, st18, st19, st20, st21, st22, st23, st24, st25, st26, st27, st28, st29, st30, st31, st32, st33, st34, st35, st36, st37, st38, st39, st40, st41, st42, st43, st44, st45, st46, st47, st48, st49, st50, st51, st52, st53, st54, st55, st56, st57, st58, st59, st60, st61, st62, st63, st64, st65, st66, st67, st68, st69, st70, st71, st72, st73, st74, st75, st76, st77, st78, st79, st80, st81, st82, st83, st84, st85, st86, st87, st88, st89, st90, st91, T0, S0, V0, R1, E1, F1, -Int.natCast_add]
  refine l_bits (by omega) hI hR hK (fun hy H1 i1 i2 i3 iv => ?_) (fun hn H1 i1 i2 i3 => ?_)
  · have T1 := (IR_RN i2).1
    have S1 := (i3.1 b hb).1.trans hs
    have V1 := (i3.1 b hb).2
    simp [wp_ne 721, wpE, mk_L_law, mg, mc_L_law, lget, lset, popN, cats, rcv, entL, isArr, kC_s, kC_n, st1, st2, st3, st4, st5, st6, st7, st8, st9, st10, st11, st12, st13, st14, st15, st16, st17, st18, st19, st20, st21, st22, st23, st24, st25, st26, st27, st28, st29, st30, st31, st32, st33, st34, st35, st36, st37, st38, st39, st40, st41, st42, st43, st44, st45, st46, st47, st48, st49, st50, st51, st52, st53, st54, st55, st56, st57, st58, st59, st60, st61, st62, st63, st64, st65, st66, st67, st68, st69, st70, st71, st72, st73, st74, st75, st76, st77, st78, st79, st80, st81, st82, st83, st84, st85, st86, st87, st88, st89, st90, st91, T1, S1, V1, R1, E1, -Int.natCast_add]
    refine m_bits (by omega) hw i1 i2 i3 (fun _ H2 j1 j2 j3 jt jv => ?_) (fun q => absurd hy q)
    have T2 := (IR_RN j2).1
    simp [wp_ne 721, wpE, mk_L_law, mg, mc_L_law, lget, lset, popN, cats, rcv, entL, isArr, kC_s, kC_n, st1, st2, st3, st4, st5, st6, st7, st8, st9, st10, st11, st12, st13, st14, st15, st16, st17, st18, st19, st20, st21, st22, st23, st24, st25, st26, st27, st28, st29, st30, st31, st32, st33, st34, st35, st36, st37, st38, st39, st40, st41, st42, st43, st44, st45, st46, st47, st48, st49, st50, st51, st52, st53, st54, st55, st56, st57, st58, st59, st60, st61, st62, st63, st64, st65, st66, st67, st68, st69, st70, st71, st72, st73, st74, st75, st76, st77, st78, st79, st80, st81, st82, st83, st84, st85, st86, st87, st88, st89, st90, st91, T2]
    refine r_thrown (IR_RN j2) ?_
    rw [jt]
    have T3 := j3.2
    simp [wp_ne 721, wpE, mk_L_law, mg, mc_L_law, lget, lset, popN, cats, rcv, entL, isArr, kC_s, kC_n, st1, st2, st3, st4, st5, st6, st7, st8, st9, st10, st11, st12, st13, st14, st15, st16, st17, st18, st19, st20, st21, st22, st23, st24, st25, st26, st27, st28, st29, st30, st31, st32, st33, st34, st35, st36, st37, st38, st39, st40, st41, st42, st43, st44, st45, st46, st47, st48, st49, st50, st51, st52, st53, st54, st55, st56, st57, st58, st59, st60, st61, st62, st63, st64, st65, st66, st67, st68, st69, st70, st71, st72, st73, st74, st75, st76, st77, st78, st79, st80, st81, st82, st83, st84, st85, st86, st87, st88, st89, st90, st91, T3, jv, iv, cmpL]
    exact hz H2 _ _ _ _ _ j1 j2 j3 (by omega) (by omega)
  · have T1 := (IR_RN i2).1
    have S1 := (i3.1 b hb).1.trans hs
    have V1 := (i3.1 b hb).2
    simp [wp_ne 721, wpE, mk_L_law, mg, mc_L_law, lget, lset, popN, cats, rcv, entL, isArr, kC_s, kC_n, st1, st2, st3, st4, st5, st6, st7, st8, st9, st10, st11, st12, st13, st14, st15, st16, st17, st18, st19, st20, st21, st22, st23, st24, st25, st26, st27, st28, st29, st30, st31, st32, st33, st34, st35, st36, st37, st38, st39, st40, st41, st42, st43, st44, st45, st46, st47, st48, st49, st50, st51, st52, st53, st54, st55, st56, st57, st58, st59, st60, st61, st62, st63, st64, st65, st66, st67, st68, st69, st70, st71, st72, st73, st74, st75, st76, st77, st78, st79, st80, st81, st82, st83, st84, st85, st86, st87, st88, st89, st90, st91, T1, S1, V1, R1, E1, -Int.natCast_add]
    refine m_bits (by omega) hw i1 i2 i3 (fun q => absurd q hn) (fun _ H2 j1 j2 j3 jt => ?_)
    have T2 := (IR_RN j2).1
    simp [wp_ne 721, wpE, mk_L_law, mg, mc_L_law, lget, lset, popN, cats, rcv, entL, isArr, kC_s, kC_n, st1, st2, st3, st4, st5, st6, st7, st8, st9, st10, st11, st12, st13, st14, st15, st16, st17, st18, st19, st20, st21, st22, st23, st24, st25, st26, st27, st28, st29, st30, st31, st32, st33, st34, st35, st36, st37, st38, st39, st40, st41, st42, st43, st44, st45, st46, st47, st48, st49, st50, st51, st52, st53, st54, st55, st56, st57, st58, st59, st60, st61, st62, st63, st64, st65, st66, st67, st68, st69, st70, st71, st72, st73, st74, st75, st76, st77, st78, st79, st80, st81, st82, st83, st84, st85, st86, st87, st88, st89, st90, st91, T2]
    refine r_thrown (IR_RN j2) ?_
    rw [jt]
    simp [wp_ne 721, wpE, mk_L_law, mg, mc_L_law, lget, lset, popN, cats, rcv, entL, isArr, kC_s, kC_n, st1, st2, st3, st4, st5, st6, st7, st8, st9, st10, st11, st12, st13, st14, st15, st16, st17, st18, st19, st20, st21, st22, st23, st24, st25, st26, st27, st28, st29, st30, st31, st32, st33, st34, st35, st36, st37, st38, st39, st40, st41, st42, st43, st44, st45, st46, st47, st48, st49, st50, st51, st52, st53, st54, st55, st56, st57, st58, st59, st60, st61, st62, st63, st64, st65, st66, st67, st68, st69, st70, st71, st72, st73, st74, st75, st76, st77, st78, st79, st80, st81, st82, st83, st84, st85, st86, st87, st88, st89, st90, st91]
    exact hz H2 _ _ _ _ _ j1 j2 j3 (by omega) (by omega)
theorem o_go {G : Nat → Nat} {n0 b i Ln bc bs : Nat} {h0 H : mH} {Q : mQ} {X : mX} {s : aQ} {v5 v6 : Option mV} (hb : b < n0) (hs : hty h0 b = some (50, Ln)) (hi : i + 6 ≤ Ln) (hL : Ln ≤ 3072) (hbc : 9 ≤ bc) (hbs : 352 ≤ bs) (hI : IC n0 H s) (hR : IR n0 H s) (hK : IK n0 h0 H) (hz : lwK G n0 b i bc bs h0 Q X) :
    wp G 1000 161 467 [some (.inr (.inl (some b))), some (.inr (.inl (some n0))), some (.inr (.inl (some (n0 + 27)))), some (.inr (.inl (some (n0 + 59)))), some (.inl (i : Int)), v5, v6] [] H bc bs Q X := by
  have hw := IC_wf hI
  have T0 := IC_ty hI
  have S0 := (hK.1 b hb).1.trans hs
  have V0 := (hK.1 b hb).2
  have R1 : ∀ k : Int, 0 ≤ k → k ≤ 6 → inR ((i : Int) + k) = True := fun k h1 h2 => eq_true ⟨by omega, by omega⟩
  have E1 : ∀ k : Int, 0 ≤ k → k ≤ 5 → (0 ≤ (i : Int) + k ∧ (i : Int) + k < (Ln : Int)) = True := fun k h1 h2 => eq_true ⟨by omega, by omega⟩
  simp [wp_ne 721, wpE, mk_L_law, mg, mc_L_law, lget, lset, popN, cats, rcv, entL, isArr, kC_s, kC_n, st1, st2, st3, st4, st5, st6, st7, st8, st9, st10, st11, st12, st13, st14, st15, st16, st17, st18, st19, st20, st21, st22, st23, st24, st25, st26, st27, st28, st29, st30, st31, st32, st33, st34, st35, st36, st37, st38, st39, st40, st41, st42, st43, st44, st45, st46, st47, st48, st49, st50, st51, st52, st53, st54, st55, st56, st57, st58, st59, st60, st61, st62, st63, st64, st65, st66, st67, st68, st69, st70, st71, st72, st73, st74, st75, st76, st77, st78, st79, st80, st81, st82, st83, st84, st85, st86, st87, st88, st89, st90, st91, T0, S0, V0, R1, E1, -Int.natCast_add]
  refine k_go (by omega) hI hR hK (fun H1 i1 i2 i3 => ?_)
  have T1 := (IR_RN i2).1
  have S1 := (i3.1 b hb).1.trans hs
  have V1 := (i3.1 b hb).2
  simp [wp_ne 721, wpE, mk_L_law, mg, mc_L_law, lget, lset, popN, cats, rcv, entL, isArr, kC_s, kC_n, st1, st2, st3, st4, st5, st6, st7, st8, st9, st10, st11, st12, st13, st14, st15, st16, st17, st18, st19, st20, st21, st22, st23, st24, st25, st26, st27, st28, st29, st30, st31, st32, st33, st34, st35, st36, st37, st38, st39, st40, st41, st42, st43, st44, st45, st46, st47, st48, st49, st50, st51, st52, st53, st54, st55, st56, st57, st58, st59, st60, st61, st62, st63, st64, st65, st66, st67, st68, st69, st70, st71, st72, st73, st74, st75, st76, st77, st78, st79, st80, st81, st82, st83, st84, st85, st86, st87, st88, st89, st90, st91, T1, S1, V1, R1, E1, -Int.natCast_add]
  refine m_go (by omega) hw i1 i2 i3 (fun H2 j1 j2 j3 => ?_)
  simp [wp_ne 721, wpE, mk_L_law, mg, mc_L_law, lget, lset, popN, cats, rcv, entL, isArr, kC_s, kC_n, st1, st2, st3, st4, st5, st6, st7, st8, st9, st10, st11, st12, st13, st14, st15, st16, st17, st18, st19, st20, st21, st22, st23, st24, st25, st26, st27, st28, st29, st30, st31, st32, st33, st34, st35, st36, st37, st38, st39, st40, st41, st42, st43, st44, st45, st46, st47, st48, st49, st50, st51, st52, st53, st54, st55, st56, st57, st58, st59, st60, st61, st62, st63, st64, st65, st66, st67, st68, st69, st70, st71, st72, st73, st74, st75, st76, st77, st78, st79, st80, st81, st82, st83, st84, st85, st86, st87, st88, st89, st90, st91]
  exact hz H2 _ _ _ _ _ j1 j2 j3 (by omega) (by omega)
theorem o_node {G : Nat → Nat} {n0 b i Ln bc bs : Nat} {h0 H : mH} {Q : mQ} {X : mX} {s : aQ} {v5 v6 : Option mV} (hb : b < n0) (hs : hty h0 b = some (50, Ln)) (hi : i + 6 ≤ Ln) (hL : Ln ≤ 3072) (hbc : 9 ≤ bc) (hbs : 352 ≤ bs) (hI : IC n0 H s) (hR : IR n0 H s) (hK : IK n0 h0 H) (hz : lwK G n0 b i bc bs h0 Q X) :
    wp G 1000 161 480 [some (.inr (.inl (some b))), some (.inr (.inl (some n0))), some (.inr (.inl (some (n0 + 27)))), some (.inr (.inl (some (n0 + 59)))), some (.inl (i : Int)), v5, v6] [] H bc bs Q X := by
  have hw := IC_wf hI
  have T0 := IC_ty hI
  have S0 := (hK.1 b hb).1.trans hs
  have V0 := (hK.1 b hb).2
  have R1 : ∀ k : Int, 0 ≤ k → k ≤ 6 → inR ((i : Int) + k) = True := fun k h1 h2 => eq_true ⟨by omega, by omega⟩
  have E1 : ∀ k : Int, 0 ≤ k → k ≤ 5 → (0 ≤ (i : Int) + k ∧ (i : Int) + k < (Ln : Int)) = True := fun k h1 h2 => eq_true ⟨by omega, by omega⟩
  by_cases hf : hvi h0 b (i + 1) = 0
  · simp [wp_ne 721, wpE, mk_L_law, mg, mc_L_law, lget, lset, popN, cats, rcv, entL, isArr, kC_s, kC_n, st1, st2, st3, st4, st5, st6, st7, st8, st9, st10, st11, st12, st13, st14, st15, st16, st17, st18, st19, st20, st21, st22, st23, st24, st25, st26, st27, st28, st29, st30, st31, st32, st33, st34, st35, st36, st37, st38, st39, st40, st41, st42, st43, st44, st45, st46, st47, st48, st49, st50, st51, st52, st53, st54, st55, st56, st57, st58, st59, st60, st61, st62, st63, st64, st65, st66, st67, st68, st69, st70, st71, st72, st73, st74, st75, st76, st77, st78, st79, st80, st81, st82, st83, st84, st85, st86, st87, st88, st89, st90, st91, T0, S0, V0, R1, E1, hf, -Int.natCast_add]
    refine k_node (fol := false) (by omega) hI hR hK (fun H1 i1 i2 i3 => ?_)
    have T1 := (IR_RN i2).1
    have S1 := (i3.1 b hb).1.trans hs
    have V1 := (i3.1 b hb).2
    simp [wp_ne 721, wpE, mk_L_law, mg, mc_L_law, lget, lset, popN, cats, rcv, entL, isArr, kC_s, kC_n, st1, st2, st3, st4, st5, st6, st7, st8, st9, st10, st11, st12, st13, st14, st15, st16, st17, st18, st19, st20, st21, st22, st23, st24, st25, st26, st27, st28, st29, st30, st31, st32, st33, st34, st35, st36, st37, st38, st39, st40, st41, st42, st43, st44, st45, st46, st47, st48, st49, st50, st51, st52, st53, st54, st55, st56, st57, st58, st59, st60, st61, st62, st63, st64, st65, st66, st67, st68, st69, st70, st71, st72, st73, st74, st75, st76, st77, st78, st79, st80, st81, st82, st83, st84, st85, st86, st87, st88, st89, st90, st91, T1, S1, V1, R1, E1, hf, -Int.natCast_add]
    refine m_node (fol := false) (by omega) hw i1 i2 i3 (fun H2 j1 j2 j3 => ?_)
    simp [wp_ne 721, wpE, mk_L_law, mg, mc_L_law, lget, lset, popN, cats, rcv, entL, isArr, kC_s, kC_n, st1, st2, st3, st4, st5, st6, st7, st8, st9, st10, st11, st12, st13, st14, st15, st16, st17, st18, st19, st20, st21, st22, st23, st24, st25, st26, st27, st28, st29, st30, st31, st32, st33, st34, st35, st36, st37, st38, st39, st40, st41, st42, st43, st44, st45, st46, st47, st48, st49, st50, st51, st52, st53, st54, st55, st56, st57, st58, st59, st60, st61, st62, st63, st64, st65, st66, st67, st68, st69, st70, st71, st72, st73, st74, st75, st76, st77, st78, st79, st80, st81, st82, st83, st84, st85, st86, st87, st88, st89, st90, st91]
    exact hz H2 _ _ _ _ _ j1 j2 j3 (by omega) (by omega)
  · simp [wp_ne 721, wpE, mk_L_law, mg, mc_L_law, lget, lset, popN, cats, rcv, entL, isArr, kC_s, kC_n, st1, st2, st3, st4, st5, st6, st7, st8, st9, st10, st11, st12, st13, st14, st15, st16, st17, st18, st19, st20, st21, st22, st23, st24, st25, st26, st27, st28, st29, st30, st31, st32, st33, st34, st35, st36, st37, st38, st39, st40, st41, st42, st43, st44, st45, st46, st47, st48, st49, st50, st51, st52, st53, st54, st55, st56, st57, st58, st59, st60, st61, st62, st63, st64, st65, st66, st67, st68, st69, st70, st71, st72, st73, st74, st75, st76, st77, st78, st79, st80, st81, st82, st83, st84, st85, st86, st87, st88, st89, st90, st91, T0, S0, V0, R1, E1, hf, -Int.natCast_add]
    refine k_node (fol := true) (by omega) hI hR hK (fun H1 i1 i2 i3 => ?_)
    have T1 := (IR_RN i2).1
    have S1 := (i3.1 b hb).1.trans hs
    have V1 := (i3.1 b hb).2
    simp [wp_ne 721, wpE, mk_L_law, mg, mc_L_law, lget, lset, popN, cats, rcv, entL, isArr, kC_s, kC_n, st1, st2, st3, st4, st5, st6, st7, st8, st9, st10, st11, st12, st13, st14, st15, st16, st17, st18, st19, st20, st21, st22, st23, st24, st25, st26, st27, st28, st29, st30, st31, st32, st33, st34, st35, st36, st37, st38, st39, st40, st41, st42, st43, st44, st45, st46, st47, st48, st49, st50, st51, st52, st53, st54, st55, st56, st57, st58, st59, st60, st61, st62, st63, st64, st65, st66, st67, st68, st69, st70, st71, st72, st73, st74, st75, st76, st77, st78, st79, st80, st81, st82, st83, st84, st85, st86, st87, st88, st89, st90, st91, T1, S1, V1, R1, E1, hf, -Int.natCast_add]
    refine m_node (fol := true) (by omega) hw i1 i2 i3 (fun H2 j1 j2 j3 => ?_)
    simp [wp_ne 721, wpE, mk_L_law, mg, mc_L_law, lget, lset, popN, cats, rcv, entL, isArr, kC_s, kC_n, st1, st2, st3, st4, st5, st6, st7, st8, st9, st10, st11, st12, st13, st14, st15, st16, st17, st18, st19, st20, st21, st22, st23, st24, st25, st26, st27, st28, st29, st30, st31, st32, st33, st34, st35, st36, st37, st38, st39, st40, st41, st42, st43, st44, st45, st46, st47, st48, st49, st50, st51, st52, st53, st54, st55, st56, st57, st58, st59, st60, st61, st62, st63, st64, st65, st66, st67, st68, st69, st70, st71, st72, st73, st74, st75, st76, st77, st78, st79, st80, st81, st82, st83, st84, st85, st86, st87, st88, st89, st90, st91]
    exact hz H2 _ _ _ _ _ j1 j2 j3 (by omega) (by omega)
theorem o_real {G : Nat → Nat} {n0 b i Ln bc bs : Nat} {h0 H : mH} {Q : mQ} {X : mX} {s : aQ} {v5 v6 : Option mV} (hb : b < n0) (hs : hty h0 b = some (50, Ln)) (hi : i + 6 ≤ Ln) (hL : Ln ≤ 3072) (hbc : 9 ≤ bc) (hbs : 352 ≤ bs) (hI : IC n0 H s) (hR : IR n0 H s) (hK : IK n0 h0 H) (hz : lwK G n0 b i bc bs h0 Q X) :
    wp G 1000 161 521 [some (.inr (.inl (some b))), some (.inr (.inl (some n0))), some (.inr (.inl (some (n0 + 27)))), some (.inr (.inl (some (n0 + 59)))), some (.inl (i : Int)), v5, v6] [] H bc bs Q X := by
  have hw := IC_wf hI
  have T0 := IC_ty hI
  have S0 := (hK.1 b hb).1.trans hs
  have V0 := (hK.1 b hb).2
  have R1 : ∀ k : Int, 0 ≤ k → k ≤ 6 → inR ((i : Int) + k) = True := fun k h1 h2 => eq_true ⟨by omega, by omega⟩
  have E1 : ∀ k : Int, 0 ≤ k → k ≤ 5 → (0 ≤ (i : Int) + k ∧ (i : Int) + k < (Ln : Int)) = True := fun k h1 h2 => eq_true ⟨by omega, by omega⟩
  simp [wp_ne 721, wpE, mk_L_law, mg, mc_L_law, lget, lset, popN, cats, rcv, entL, isArr, kC_s, kC_n, st1, st2, st3, st4, st5, st6, st7, st8, st9, st10, st11, st12, st13, st14, st15, st16, st17, st18, st19, st20, st21, st22, st23, st24, st25, st26, st27, st28, st29, st30, st31, st32, st33, st34, st35, st36, st37, st38, st39, st40, st41, st42, st43, st44, st45, st46, st47, st48, st49, st50, st51, st52, st53, st54, st55, st56, st57, st58, st59, st60, st61, st62, st63, st64, st65, st66, st67, st68, st69, st70, st71, st72, st73, st74, st75, st76, st77, st78, st79, st80, st81, st82, st83, st84, st85, st86, st87, st88, st89, st90, st91, T0, S0, V0, R1, E1, -Int.natCast_add]
  refine k_real (by omega) hI hR hK (fun H1 i1 i2 i3 => ?_)
  have T1 := (IR_RN i2).1
  have S1 := (i3.1 b hb).1.trans hs
  have V1 := (i3.1 b hb).2
  simp [wp_ne 721, wpE, mk_L_law, mg, mc_L_law, lget, lset, popN, cats, rcv, entL, isArr, kC_s, kC_n, st1, st2, st3, st4, st5, st6, st7, st8, st9, st10, st11, st12, st13, st14, st15, st16, st17, st18, st19, st20, st21, st22, st23, st24, st25, st26, st27, st28, st29, st30, st31, st32, st33, st34, st35, st36, st37, st38, st39, st40, st41, st42, st43, st44, st45, st46, st47, st48, st49, st50, st51, st52, st53, st54, st55, st56, st57, st58, st59, st60, st61, st62, st63, st64, st65, st66, st67, st68, st69, st70, st71, st72, st73, st74, st75, st76, st77, st78, st79, st80, st81, st82, st83, st84, st85, st86, st87, st88, st89, st90, st91, T1, S1, V1, R1, E1, -Int.natCast_add]
  refine m_real (by omega) hw i1 i2 i3 (fun H2 j1 j2 j3 => ?_)
  simp [wp_ne 721, wpE, mk_L_law, mg, mc_L_law, lget, lset, popN, cats, rcv, entL, isArr, kC_s, kC_n, st1, st2, st3, st4, st5, st6, st7, st8, st9, st10, st11, st12, st13, st14, st15, st16, st17, st18, st19, st20, st21, st22, st23, st24, st25, st26, st27, st28, st29, st30, st31, st32, st33, st34, st35, st36, st37, st38, st39, st40, st41, st42, st43, st44, st45, st46, st47, st48, st49, st50, st51, st52, st53, st54, st55, st56, st57, st58, st59, st60, st61, st62, st63, st64, st65, st66, st67, st68, st69, st70, st71, st72, st73, st74, st75, st76, st77, st78, st79, st80, st81, st82, st83, st84, st85, st86, st87, st88, st89, st90, st91]
  exact hz H2 _ _ _ _ _ j1 j2 j3 (by omega) (by omega)
theorem o_find {G : Nat → Nat} {n0 b i Ln bc bs : Nat} {h0 H : mH} {Q : mQ} {X : mX} {s : aQ} {v5 v6 : Option mV} (hb : b < n0) (hs : hty h0 b = some (50, Ln)) (hi : i + 6 ≤ Ln) (hL : Ln ≤ 3072) (hbc : 9 ≤ bc) (hbs : 352 ≤ bs) (hI : IC n0 H s) (hR : IR n0 H s) (hK : IK n0 h0 H) (hz : lwK G n0 b i bc bs h0 Q X) (hg0 : G 0 < n0) (hg1 : hty h0 (G 0) = some (51, 1)) (hg2 : hvi h0 (G 0) 0 = 46) :
    wp G 1000 161 534 [some (.inr (.inl (some b))), some (.inr (.inl (some n0))), some (.inr (.inl (some (n0 + 27)))), some (.inr (.inl (some (n0 + 59)))), some (.inl (i : Int)), v5, v6] [] H bc bs Q X := by
  have hw := IC_wf hI
  have T0 := IC_ty hI
  have S0 := (hK.1 b hb).1.trans hs
  have V0 := (hK.1 b hb).2
  have R1 : ∀ k : Int, 0 ≤ k → k ≤ 6 → inR ((i : Int) + k) = True := fun k h1 h2 => eq_true ⟨by omega, by omega⟩
  have E1 : ∀ k : Int, 0 ≤ k → k ≤ 5 → (0 ≤ (i : Int) + k ∧ (i : Int) + k < (Ln : Int)) = True := fun k h1 h2 => eq_true ⟨by omega, by omega⟩
  have F1 : (1 ≤ bc ∧ 6 ≤ bs) = True := eq_true ⟨by omega, by omega⟩
  simp [wp_ne 721, wpE, mk_L_law, mg, mc_L_law, lget, lset, popN, cats, rcv, entL, isArr, kC_s, kC_n, st1, st2, st3, st4, st5, st6, st7, st8, st9, st10, st11, st12, st13, st14, st15, st16, st17, st18, st19, st20, st21, st22, st23, st24, st25, st26, st27, st28, st29, st30, st31, st32, st33, st34, st35, st36, st37, st38, st39, st40, st41, st42, st43, st44, st45, st46, st47, st48, st49, st50, st51, st52, st53, st54, st55, st56, st57, st58, st59, st60, st61, st62, st63, st64, st65, st66, st67, st68, st69, st70, st71, st72, st73, st74, st75, st76, st77, st78, st79, st80, st81, st82, st83, st84, st85, st86, st87, st88, st89, st90, st91, T0, S0, V0, R1, E1, F1, -Int.natCast_add]
  refine l_find (by omega) hg0 hg1 hg2 hI hR hK (fun hy H1 i1 i2 i3 iv => ?_) (fun hn H1 i1 i2 i3 => ?_)
  · have T1 := (IR_RN i2).1
    have S1 := (i3.1 b hb).1.trans hs
    have V1 := (i3.1 b hb).2
    simp [wp_ne 721, wpE, mk_L_law, mg, mc_L_law, lget, lset, popN, cats, rcv, entL, isArr, kC_s, kC_n, st1, st2, st3, st4, st5, st6, st7, st8, st9, st10, st11, st12, st13, st14, st15, st16, st17, st18, st19, st20, st21, st22, st23, st24, st25, st26, st27, st28, st29, st30, st31, st32, st33, st34, st35, st36, st37, st38, st39, st40, st41, st42, st43, st44, st45, st46, st47, st48, st49, st50, st51, st52, st53, st54, st55, st56, st57, st58, st59, st60, st61, st62, st63, st64, st65, st66, st67, st68, st69, st70, st71, st72, st73, st74, st75, st76, st77, st78, st79, st80, st81, st82, st83, st84, st85, st86, st87, st88, st89, st90, st91, T1, S1, V1, R1, E1, -Int.natCast_add]
    refine m_find (by omega) hw i1 i2 i3 (fun _ H2 j1 j2 j3 jt jv => ?_) (fun q => absurd hy q)
    have T2 := (IR_RN j2).1
    simp [wp_ne 721, wpE, mk_L_law, mg, mc_L_law, lget, lset, popN, cats, rcv, entL, isArr, kC_s, kC_n, st1, st2, st3, st4, st5, st6, st7, st8, st9, st10, st11, st12, st13, st14, st15, st16, st17, st18, st19, st20, st21, st22, st23, st24, st25, st26, st27, st28, st29, st30, st31, st32, st33, st34, st35, st36, st37, st38, st39, st40, st41, st42, st43, st44, st45, st46, st47, st48, st49, st50, st51, st52, st53, st54, st55, st56, st57, st58, st59, st60, st61, st62, st63, st64, st65, st66, st67, st68, st69, st70, st71, st72, st73, st74, st75, st76, st77, st78, st79, st80, st81, st82, st83, st84, st85, st86, st87, st88, st89, st90, st91, T2]
    refine r_thrown (IR_RN j2) ?_
    rw [jt]
    have T3 := j3.2
    simp [wp_ne 721, wpE, mk_L_law, mg, mc_L_law, lget, lset, popN, cats, rcv, entL, isArr, kC_s, kC_n, st1, st2, st3, st4, st5, st6, st7, st8, st9, st10, st11, st12, st13, st14, st15, st16, st17, st18, st19, st20, st21, st22, st23, st24, st25, st26, st27, st28, st29, st30, st31, st32, st33, st34, st35, st36, st37, st38, st39, st40, st41, st42, st43, st44, st45, st46, st47, st48, st49, st50, st51, st52, st53, st54, st55, st56, st57, st58, st59, st60, st61, st62, st63, st64, st65, st66, st67, st68, st69, st70, st71, st72, st73, st74, st75, st76, st77, st78, st79, st80, st81, st82, st83, st84, st85, st86, st87, st88, st89, st90, st91, T3, jv, iv, cmpL]
    exact hz H2 _ _ _ _ _ j1 j2 j3 (by omega) (by omega)
  · have T1 := (IR_RN i2).1
    have S1 := (i3.1 b hb).1.trans hs
    have V1 := (i3.1 b hb).2
    simp [wp_ne 721, wpE, mk_L_law, mg, mc_L_law, lget, lset, popN, cats, rcv, entL, isArr, kC_s, kC_n, st1, st2, st3, st4, st5, st6, st7, st8, st9, st10, st11, st12, st13, st14, st15, st16, st17, st18, st19, st20, st21, st22, st23, st24, st25, st26, st27, st28, st29, st30, st31, st32, st33, st34, st35, st36, st37, st38, st39, st40, st41, st42, st43, st44, st45, st46, st47, st48, st49, st50, st51, st52, st53, st54, st55, st56, st57, st58, st59, st60, st61, st62, st63, st64, st65, st66, st67, st68, st69, st70, st71, st72, st73, st74, st75, st76, st77, st78, st79, st80, st81, st82, st83, st84, st85, st86, st87, st88, st89, st90, st91, T1, S1, V1, R1, E1, -Int.natCast_add]
    refine m_find (by omega) hw i1 i2 i3 (fun q => absurd q hn) (fun _ H2 j1 j2 j3 jt => ?_)
    have T2 := (IR_RN j2).1
    simp [wp_ne 721, wpE, mk_L_law, mg, mc_L_law, lget, lset, popN, cats, rcv, entL, isArr, kC_s, kC_n, st1, st2, st3, st4, st5, st6, st7, st8, st9, st10, st11, st12, st13, st14, st15, st16, st17, st18, st19, st20, st21, st22, st23, st24, st25, st26, st27, st28, st29, st30, st31, st32, st33, st34, st35, st36, st37, st38, st39, st40, st41, st42, st43, st44, st45, st46, st47, st48, st49, st50, st51, st52, st53, st54, st55, st56, st57, st58, st59, st60, st61, st62, st63, st64, st65, st66, st67, st68, st69, st70, st71, st72, st73, st74, st75, st76, st77, st78, st79, st80, st81, st82, st83, st84, st85, st86, st87, st88, st89, st90, st91, T2]
    refine r_thrown (IR_RN j2) ?_
    rw [jt]
    simp [wp_ne 721, wpE, mk_L_law, mg, mc_L_law, lget, lset, popN, cats, rcv, entL, isArr, kC_s, kC_n, st1, st2, st3, st4, st5, st6, st7, st8, st9, st10, st11, st12, st13, st14, st15, st16, st17, st18, st19, st20, st21, st22, st23, st24, st25, st26, st27, st28, st29, st30, st31, st32, st33, st34, st35, st36, st37, st38, st39, st40, st41, st42, st43, st44, st45, st46, st47, st48, st49, st50, st51, st52, st53, st54, st55, st56, st57, st58, st59, st60, st61, st62, st63, st64, st65, st66, st67, st68, st69, st70, st71, st72, st73, st74, st75, st76, st77, st78, st79, st80, st81, st82, st83, st84, st85, st86, st87, st88, st89, st90, st91]
    exact hz H2 _ _ _ _ _ j1 j2 j3 (by omega) (by omega)
theorem o_place {G : Nat → Nat} {n0 b i Ln bc bs : Nat} {h0 H : mH} {Q : mQ} {X : mX} {s : aQ} {v5 v6 : Option mV} (hb : b < n0) (hs : hty h0 b = some (50, Ln)) (hi : i + 6 ≤ Ln) (hL : Ln ≤ 3072) (hbc : 9 ≤ bc) (hbs : 352 ≤ bs) (hI : IC n0 H s) (hR : IR n0 H s) (hK : IK n0 h0 H) (hz : lwK G n0 b i bc bs h0 Q X) :
    wp G 1000 161 590 [some (.inr (.inl (some b))), some (.inr (.inl (some n0))), some (.inr (.inl (some (n0 + 27)))), some (.inr (.inl (some (n0 + 59)))), some (.inl (i : Int)), v5, v6] [] H bc bs Q X := by
  have hw := IC_wf hI
  have T0 := IC_ty hI
  have S0 := (hK.1 b hb).1.trans hs
  have V0 := (hK.1 b hb).2
  have R1 : ∀ k : Int, 0 ≤ k → k ≤ 6 → inR ((i : Int) + k) = True := fun k h1 h2 => eq_true ⟨by omega, by omega⟩
  have E1 : ∀ k : Int, 0 ≤ k → k ≤ 5 → (0 ≤ (i : Int) + k ∧ (i : Int) + k < (Ln : Int)) = True := fun k h1 h2 => eq_true ⟨by omega, by omega⟩
  simp [wp_ne 721, wpE, mk_L_law, mg, mc_L_law, lget, lset, popN, cats, rcv, entL, isArr, kC_s, kC_n, st1, st2, st3, st4, st5, st6, st7, st8, st9, st10, st11, st12, st13, st14, st15, st16, st17, st18, st19, st20, st21, st22, st23, st24, st25, st26, st27, st28, st29, st30, st31, st32, st33, st34, st35, st36, st37, st38, st39, st40, st41, st42, st43, st44, st45, st46, st47, st48, st49, st50, st51, st52, st53, st54, st55, st56, st57, st58, st59, st60, st61, st62, st63, st64, st65, st66, st67, st68, st69, st70, st71, st72, st73, st74, st75, st76, st77, st78, st79, st80, st81, st82, st83, st84, st85, st86, st87, st88, st89, st90, st91, T0, S0, V0, R1, E1, -Int.natCast_add]
  refine k_place hI hR hK (fun H1 i1 i2 i3 => ?_)
  have T1 := (IR_RN i2).1
  have S1 := (i3.1 b hb).1.trans hs
  have V1 := (i3.1 b hb).2
  simp [wp_ne 721, wpE, mk_L_law, mg, mc_L_law, lget, lset, popN, cats, rcv, entL, isArr, kC_s, kC_n, st1, st2, st3, st4, st5, st6, st7, st8, st9, st10, st11, st12, st13, st14, st15, st16, st17, st18, st19, st20, st21, st22, st23, st24, st25, st26, st27, st28, st29, st30, st31, st32, st33, st34, st35, st36, st37, st38, st39, st40, st41, st42, st43, st44, st45, st46, st47, st48, st49, st50, st51, st52, st53, st54, st55, st56, st57, st58, st59, st60, st61, st62, st63, st64, st65, st66, st67, st68, st69, st70, st71, st72, st73, st74, st75, st76, st77, st78, st79, st80, st81, st82, st83, st84, st85, st86, st87, st88, st89, st90, st91, T1, S1, V1, R1, E1, -Int.natCast_add]
  refine m_place hw i1 i2 i3 (fun H2 j1 j2 j3 => ?_)
  simp [wp_ne 721, wpE, mk_L_law, mg, mc_L_law, lget, lset, popN, cats, rcv, entL, isArr, kC_s, kC_n, st1, st2, st3, st4, st5, st6, st7, st8, st9, st10, st11, st12, st13, st14, st15, st16, st17, st18, st19, st20, st21, st22, st23, st24, st25, st26, st27, st28, st29, st30, st31, st32, st33, st34, st35, st36, st37, st38, st39, st40, st41, st42, st43, st44, st45, st46, st47, st48, st49, st50, st51, st52, st53, st54, st55, st56, st57, st58, st59, st60, st61, st62, st63, st64, st65, st66, st67, st68, st69, st70, st71, st72, st73, st74, st75, st76, st77, st78, st79, st80, st81, st82, st83, st84, st85, st86, st87, st88, st89, st90, st91]
  exact hz H2 _ _ _ _ _ j1 j2 j3 (by omega) (by omega)
theorem o_output {G : Nat → Nat} {n0 b i Ln bc bs : Nat} {h0 H : mH} {Q : mQ} {X : mX} {s : aQ} {v5 v6 : Option mV} (hb : b < n0) (hs : hty h0 b = some (50, Ln)) (hi : i + 6 ≤ Ln) (hL : Ln ≤ 3072) (hbc : 9 ≤ bc) (hbs : 352 ≤ bs) (hI : IC n0 H s) (hR : IR n0 H s) (hK : IK n0 h0 H) (hz : lwK G n0 b i bc bs h0 Q X) :
    wp G 1000 161 603 [some (.inr (.inl (some b))), some (.inr (.inl (some n0))), some (.inr (.inl (some (n0 + 27)))), some (.inr (.inl (some (n0 + 59)))), some (.inl (i : Int)), v5, v6] [] H bc bs Q X := by
  have hw := IC_wf hI
  have T0 := IC_ty hI
  have S0 := (hK.1 b hb).1.trans hs
  have V0 := (hK.1 b hb).2
  have R1 : ∀ k : Int, 0 ≤ k → k ≤ 6 → inR ((i : Int) + k) = True := fun k h1 h2 => eq_true ⟨by omega, by omega⟩
  have E1 : ∀ k : Int, 0 ≤ k → k ≤ 5 → (0 ≤ (i : Int) + k ∧ (i : Int) + k < (Ln : Int)) = True := fun k h1 h2 => eq_true ⟨by omega, by omega⟩
  simp [wp_ne 721, wpE, mk_L_law, mg, mc_L_law, lget, lset, popN, cats, rcv, entL, isArr, kC_s, kC_n, st1, st2, st3, st4, st5, st6, st7, st8, st9, st10, st11, st12, st13, st14, st15, st16, st17, st18, st19, st20, st21, st22, st23, st24, st25, st26, st27, st28, st29, st30, st31, st32, st33, st34, st35, st36, st37, st38, st39, st40, st41, st42, st43, st44, st45, st46, st47, st48, st49, st50, st51, st52, st53, st54, st55, st56, st57, st58, st59, st60, st61, st62, st63, st64, st65, st66, st67, st68, st69, st70, st71, st72, st73, st74, st75, st76, st77, st78, st79, st80, st81, st82, st83, st84, st85, st86, st87, st88, st89, st90, st91, T0, S0, V0, R1, E1, -Int.natCast_add]
  refine k_output hI hR hK (fun H1 i1 i2 i3 => ?_)
  have T1 := (IR_RN i2).1
  have S1 := (i3.1 b hb).1.trans hs
  have V1 := (i3.1 b hb).2
  simp [wp_ne 721, wpE, mk_L_law, mg, mc_L_law, lget, lset, popN, cats, rcv, entL, isArr, kC_s, kC_n, st1, st2, st3, st4, st5, st6, st7, st8, st9, st10, st11, st12, st13, st14, st15, st16, st17, st18, st19, st20, st21, st22, st23, st24, st25, st26, st27, st28, st29, st30, st31, st32, st33, st34, st35, st36, st37, st38, st39, st40, st41, st42, st43, st44, st45, st46, st47, st48, st49, st50, st51, st52, st53, st54, st55, st56, st57, st58, st59, st60, st61, st62, st63, st64, st65, st66, st67, st68, st69, st70, st71, st72, st73, st74, st75, st76, st77, st78, st79, st80, st81, st82, st83, st84, st85, st86, st87, st88, st89, st90, st91, T1, S1, V1, R1, E1, -Int.natCast_add]
  refine m_output hw i1 i2 i3 (fun H2 j1 j2 j3 => ?_)
  simp [wp_ne 721, wpE, mk_L_law, mg, mc_L_law, lget, lset, popN, cats, rcv, entL, isArr, kC_s, kC_n, st1, st2, st3, st4, st5, st6, st7, st8, st9, st10, st11, st12, st13, st14, st15, st16, st17, st18, st19, st20, st21, st22, st23, st24, st25, st26, st27, st28, st29, st30, st31, st32, st33, st34, st35, st36, st37, st38, st39, st40, st41, st42, st43, st44, st45, st46, st47, st48, st49, st50, st51, st52, st53, st54, st55, st56, st57, st58, st59, st60, st61, st62, st63, st64, st65, st66, st67, st68, st69, st70, st71, st72, st73, st74, st75, st76, st77, st78, st79, st80, st81, st82, st83, st84, st85, st86, st87, st88, st89, st90, st91]
  exact hz H2 _ _ _ _ _ j1 j2 j3 (by omega) (by omega)
theorem o_tell {G : Nat → Nat} {n0 b i Ln bc bs : Nat} {h0 H : mH} {Q : mQ} {X : mX} {s : aQ} {v5 v6 : Option mV} (hb : b < n0) (hs : hty h0 b = some (50, Ln)) (hi : i + 6 ≤ Ln) (hL : Ln ≤ 3072) (hbc : 9 ≤ bc) (hbs : 352 ≤ bs) (hI : IC n0 H s) (hR : IR n0 H s) (hK : IK n0 h0 H) (hz : lwK G n0 b i bc bs h0 Q X) :
    wp G 1000 161 628 [some (.inr (.inl (some b))), some (.inr (.inl (some n0))), some (.inr (.inl (some (n0 + 27)))), some (.inr (.inl (some (n0 + 59)))), some (.inl (i : Int)), v5, v6] [] H bc bs Q X := by
  have hw := IC_wf hI
  have T0 := IC_ty hI
  have S0 := (hK.1 b hb).1.trans hs
  have V0 := (hK.1 b hb).2
  have R1 : ∀ k : Int, 0 ≤ k → k ≤ 6 → inR ((i : Int) + k) = True := fun k h1 h2 => eq_true ⟨by omega, by omega⟩
  have E1 : ∀ k : Int, 0 ≤ k → k ≤ 5 → (0 ≤ (i : Int) + k ∧ (i : Int) + k < (Ln : Int)) = True := fun k h1 h2 => eq_true ⟨by omega, by omega⟩
  have F1 : (1 ≤ bc ∧ 6 ≤ bs) = True := eq_true ⟨by omega, by omega⟩
  simp [wp_ne 721, wpE, mk_L_law, mg, mc_L_law, lget, lset, popN, cats, rcv, entL, isArr, kC_s, kC_n, st1, st2, st3, st4, st5, st6, st7, st8, st9, st10, st11, st12, st13, st14, st15, st16, st17, st18, st19, st20, st21, st22, st23, st24, st25, st26, st27, st28, st29, st30, st31, st32, st33, st34, st35, st36, st37, st38, st39, st40, st41, st42, st43, st44, st45, st46, st47, st48, st49, st50, st51, st52, st53, st54, st55, st56, st57, st58, st59, st60, st61, st62, st63, st64, st65, st66, st67, st68, st69, st70, st71, st72, st73, st74, st75, st76, st77, st78, st79, st80, st81, st82, st83, st84, st85, st86, st87, st88, st89, st90, st91, T0, S0, V0, R1, E1, F1, -Int.natCast_add]
  refine l_tell (by omega) hI hR hK (fun v hy H1 i1 i2 i3 iv => ?_) (fun hn H1 i1 i2 i3 => ?_)
  · have T1 := (IR_RN i2).1
    have S1 := (i3.1 b hb).1.trans hs
    have V1 := (i3.1 b hb).2
    simp [wp_ne 721, wpE, mk_L_law, mg, mc_L_law, lget, lset, popN, cats, rcv, entL, isArr, kC_s, kC_n, st1, st2, st3, st4, st5, st6, st7, st8, st9, st10, st11, st12, st13, st14, st15, st16, st17, st18, st19, st20, st21, st22, st23, st24, st25, st26, st27, st28, st29, st30, st31, st32, st33, st34, st35, st36, st37, st38, st39, st40, st41, st42, st43, st44, st45, st46, st47, st48, st49, st50, st51, st52, st53, st54, st55, st56, st57, st58, st59, st60, st61, st62, st63, st64, st65, st66, st67, st68, st69, st70, st71, st72, st73, st74, st75, st76, st77, st78, st79, st80, st81, st82, st83, st84, st85, st86, st87, st88, st89, st90, st91, T1, S1, V1, R1, E1, -Int.natCast_add]
    refine m_tell (by omega) hw i1 i2 i3 (fun v2 hy2 H2 j1 j2 j3 jt jv => ?_) (fun q => by rw [hy] at q; exact absurd q (by simp))
    have hv2 : v2 = v := by rw [hy] at hy2; injection hy2 with q; exact q.symm
    subst hv2
    have T2 := (IR_RN j2).1
    simp [wp_ne 721, wpE, mk_L_law, mg, mc_L_law, lget, lset, popN, cats, rcv, entL, isArr, kC_s, kC_n, st1, st2, st3, st4, st5, st6, st7, st8, st9, st10, st11, st12, st13, st14, st15, st16, st17, st18, st19, st20, st21, st22, st23, st24, st25, st26, st27, st28, st29, st30, st31, st32, st33, st34, st35, st36, st37, st38, st39, st40, st41, st42, st43, st44, st45, st46, st47, st48, st49, st50, st51, st52, st53, st54, st55, st56, st57, st58, st59, st60, st61, st62, st63, st64, st65, st66, st67, st68, st69, st70, st71, st72, st73, st74, st75, st76, st77, st78, st79, st80, st81, st82, st83, st84, st85, st86, st87, st88, st89, st90, st91, T2]
    refine r_thrown (IR_RN j2) ?_
    rw [jt]
    have T3 := j3.2
    simp [wp_ne 721, wpE, mk_L_law, mg, mc_L_law, lget, lset, popN, cats, rcv, entL, isArr, kC_s, kC_n, st1, st2, st3, st4, st5, st6, st7, st8, st9, st10, st11, st12, st13, st14, st15, st16, st17, st18, st19, st20, st21, st22, st23, st24, st25, st26, st27, st28, st29, st30, st31, st32, st33, st34, st35, st36, st37, st38, st39, st40, st41, st42, st43, st44, st45, st46, st47, st48, st49, st50, st51, st52, st53, st54, st55, st56, st57, st58, st59, st60, st61, st62, st63, st64, st65, st66, st67, st68, st69, st70, st71, st72, st73, st74, st75, st76, st77, st78, st79, st80, st81, st82, st83, st84, st85, st86, st87, st88, st89, st90, st91, T3, jv, iv, cmpL]
    exact hz H2 _ _ _ _ _ j1 j2 j3 (by omega) (by omega)
  · have T1 := (IR_RN i2).1
    have S1 := (i3.1 b hb).1.trans hs
    have V1 := (i3.1 b hb).2
    simp [wp_ne 721, wpE, mk_L_law, mg, mc_L_law, lget, lset, popN, cats, rcv, entL, isArr, kC_s, kC_n, st1, st2, st3, st4, st5, st6, st7, st8, st9, st10, st11, st12, st13, st14, st15, st16, st17, st18, st19, st20, st21, st22, st23, st24, st25, st26, st27, st28, st29, st30, st31, st32, st33, st34, st35, st36, st37, st38, st39, st40, st41, st42, st43, st44, st45, st46, st47, st48, st49, st50, st51, st52, st53, st54, st55, st56, st57, st58, st59, st60, st61, st62, st63, st64, st65, st66, st67, st68, st69, st70, st71, st72, st73, st74, st75, st76, st77, st78, st79, st80, st81, st82, st83, st84, st85, st86, st87, st88, st89, st90, st91, T1, S1, V1, R1, E1, -Int.natCast_add]
    refine m_tell (by omega) hw i1 i2 i3 (fun v2 q => by rw [hn] at q; exact absurd q (by simp)) (fun _ H2 j1 j2 j3 jt => ?_)
    have T2 := (IR_RN j2).1
    simp [wp_ne 721, wpE, mk_L_law, mg, mc_L_law, lget, lset, popN, cats, rcv, entL, isArr, kC_s, kC_n, st1, st2, st3, st4, st5, st6, st7, st8, st9, st10, st11, st12, st13, st14, st15, st16, st17, st18, st19, st20, st21, st22, st23, st24, st25, st26, st27, st28, st29, st30, st31, st32, st33, st34, st35, st36, st37, st38, st39, st40, st41, st42, st43, st44, st45, st46, st47, st48, st49, st50, st51, st52, st53, st54, st55, st56, st57, st58, st59, st60, st61, st62, st63, st64, st65, st66, st67, st68, st69, st70, st71, st72, st73, st74, st75, st76, st77, st78, st79, st80, st81, st82, st83, st84, st85, st86, st87, st88, st89, st90, st91, T2]
    refine r_thrown (IR_RN j2) ?_
    rw [jt]
    simp [wp_ne 721, wpE, mk_L_law, mg, mc_L_law, lget, lset, popN, cats, rcv, entL, isArr, kC_s, kC_n, st1, st2, st3, st4, st5, st6, st7, st8, st9, st10, st11, st12, st13, st14, st15, st16, st17, st18, st19, st20, st21, st22, st23, st24, st25, st26, st27, st28, st29, st30, st31, st32, st33, st34, st35, st36, st37, st38, st39, st40, st41, st42, st43, st44, st45, st46, st47, st48, st49, st50, st51, st52, st53, st54, st55, st56, st57, st58, st59, st60, st61, st62, st63, st64, st65, st66, st67, st68, st69, st70, st71, st72, st73, st74, st75, st76, st77, st78, st79, st80, st81, st82, st83, st84, st85, st86, st87, st88, st89, st90, st91]
    exact hz H2 _ _ _ _ _ j1 j2 j3 (by omega) (by omega)
theorem o_count {G : Nat → Nat} {n0 b i Ln bc bs : Nat} {h0 H : mH} {Q : mQ} {X : mX} {s : aQ} {v5 v6 : Option mV} (hb : b < n0) (hs : hty h0 b = some (50, Ln)) (hi : i + 6 ≤ Ln) (hL : Ln ≤ 3072) (hbc : 9 ≤ bc) (hbs : 352 ≤ bs) (hI : IC n0 H s) (hR : IR n0 H s) (hK : IK n0 h0 H) (hz : lwK G n0 b i bc bs h0 Q X) :
    wp G 1000 161 696 [some (.inr (.inl (some b))), some (.inr (.inl (some n0))), some (.inr (.inl (some (n0 + 27)))), some (.inr (.inl (some (n0 + 59)))), some (.inl (i : Int)), v5, v6] [] H bc bs Q X := by
  have hw := IC_wf hI
  have T0 := IC_ty hI
  have S0 := (hK.1 b hb).1.trans hs
  have V0 := (hK.1 b hb).2
  have R1 : ∀ k : Int, 0 ≤ k → k ≤ 6 → inR ((i : Int) + k) = True := fun k h1 h2 => eq_true ⟨by omega, by omega⟩
  have E1 : ∀ k : Int, 0 ≤ k → k ≤ 5 → (0 ≤ (i : Int) + k ∧ (i : Int) + k < (Ln : Int)) = True := fun k h1 h2 => eq_true ⟨by omega, by omega⟩
  simp [wp_ne 721, wpE, mk_L_law, mg, mc_L_law, lget, lset, popN, cats, rcv, entL, isArr, kC_s, kC_n, st1, st2, st3, st4, st5, st6, st7, st8, st9, st10, st11, st12, st13, st14, st15, st16, st17, st18, st19, st20, st21, st22, st23, st24, st25, st26, st27, st28, st29, st30, st31, st32, st33, st34, st35, st36, st37, st38, st39, st40, st41, st42, st43, st44, st45, st46, st47, st48, st49, st50, st51, st52, st53, st54, st55, st56, st57, st58, st59, st60, st61, st62, st63, st64, st65, st66, st67, st68, st69, st70, st71, st72, st73, st74, st75, st76, st77, st78, st79, st80, st81, st82, st83, st84, st85, st86, st87, st88, st89, st90, st91, T0, S0, V0, R1, E1, -Int.natCast_add]
  refine k_count hI hR hK (fun H1 i1 i2 i3 => ?_)
  have T1 := (IR_RN i2).1
  have S1 := (i3.1 b hb).1.trans hs
  have V1 := (i3.1 b hb).2
  simp [wp_ne 721, wpE, mk_L_law, mg, mc_L_law, lget, lset, popN, cats, rcv, entL, isArr, kC_s, kC_n, st1, st2, st3, st4, st5, st6, st7, st8, st9, st10, st11, st12, st13, st14, st15, st16, st17, st18, st19, st20, st21, st22, st23, st24, st25, st26, st27, st28, st29, st30, st31, st32, st33, st34, st35, st36, st37, st38, st39, st40, st41, st42, st43, st44, st45, st46, st47, st48, st49, st50, st51, st52, st53, st54, st55, st56, st57, st58, st59, st60, st61, st62, st63, st64, st65, st66, st67, st68, st69, st70, st71, st72, st73, st74, st75, st76, st77, st78, st79, st80, st81, st82, st83, st84, st85, st86, st87, st88, st89, st90, st91, T1, S1, V1, R1, E1, -Int.natCast_add]
  refine m_count hw i1 i2 i3 (fun H2 j1 j2 j3 => ?_)
  simp [wp_ne 721, wpE, mk_L_law, mg, mc_L_law, lget, lset, popN, cats, rcv, entL, isArr, kC_s, kC_n, st1, st2, st3, st4, st5, st6, st7, st8, st9, st10, st11, st12, st13, st14, st15, st16, st17, st18, st19, st20, st21, st22, st23, st24, st25, st26, st27, st28, st29, st30, st31, st32, st33, st34, st35, st36, st37, st38, st39, st40, st41, st42, st43, st44, st45, st46, st47, st48, st49, st50, st51, st52, st53, st54, st55, st56, st57, st58, st59, st60, st61, st62, st63, st64, st65, st66, st67, st68, st69, st70, st71, st72, st73, st74, st75, st76, st77, st78, st79, st80, st81, st82, st83, st84, st85, st86, st87, st88, st89, st90, st91]
  exact hz H2 _ _ _ _ _ j1 j2 j3 (by omega) (by omega)
