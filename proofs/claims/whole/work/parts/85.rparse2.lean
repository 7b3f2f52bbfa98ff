def sPP : List Nat := [19, 20, 21, 23, 24, 127]
def bnz (z : aZ) (N : Nat) : Nat := N + (opsZ z).length + pnd z
theorem stop402 {G : Nat → Nat} {d r w : Nat} {b : Bool} {x1 x4 x6 x8 : Option mV} {C : mQ} {X : mX} {Y : List Nat} {Q : List bT} {N : Nat} {h : mH} (HR : RN r h) (hY : Y.length ≤ 120) (hn : ∀ i, Y.length = i + 1 → ¬ hvi h (r + 23) i = 10 ∧ (b = true → ¬ hvi h (r + 23) i = 11))
    (hz : wp G d 127 455 [some (.inr (.inl (some r))), x1, some (.inl (Y.length : Int)), some (.inl (Q.length : Int)), x4, some (.inl (w : Int)), x6, some (.inl (b01 b)), x8] [] h 0 0 C X) : H402 G d r w b x1 x4 x6 x8 C X Y Q N h := by
  have R0 := HR.1; have R_pile := rn_pile HR; have R_operands := rn_operands HR
  unfold H402
  rw [wp_hd]
  by_cases h0 : Y.length = 0
  · have e0 : (Y.length : Int) = 0 := by omega
    rw [e0] at hz ⊢
    (repeat' (first | with_reducible assumption | (refine And.intro ?_ ?_) | (with_reducible intro _) | (simp [wp_ne 455, wpE, mk_X11_parse, mg, mc_X11_parse, lget, lset, popN, cats, rcv, entL, isArr, kC_s, kC_n, st1, st2, st3, st4, st5, st6, st7, st8, st9, st10, st11, st12, st13, st14, st15, st16, st17, st18, st19, st20, st21, st22, st23, st24, st25, st26, st27, st28, st29, st30, st31, st32, st33, st34, st35, st36, st37, st38, st39, st40, st41, st42, st43, st44, st45, st46, st47, st48, st49, st50, st51, st52, st53, st54, st55, st56, st57, st58, st59, st60, st61, st62, st63, st64, st65, st66, st67, st68, st69, st70, st71, st72, st73, st74, st75, st76, st77, st78, st79, st80, st81, st82, st83, st84, st85, st86, st87, st88, st89, st90, st91, R0, R_pile, R_operands]))) <;> (try (first | omega | exact hz))
  · obtain ⟨n1, n2⟩ := hn (Y.length - 1) (by omega)
    have e1 : ((Y.length : Int) - 1).toNat = Y.length - 1 := by omega
    cases b with
    | false =>
      (repeat' (first | with_reducible assumption | (refine And.intro ?_ ?_) | (with_reducible intro _) | (simp [wp_ne 455, wpE, mk_X11_parse, mg, mc_X11_parse, lget, lset, popN, cats, rcv, entL, isArr, kC_s, kC_n, st1, st2, st3, st4, st5, st6, st7, st8, st9, st10, st11, st12, st13, st14, st15, st16, st17, st18, st19, st20, st21, st22, st23, st24, st25, st26, st27, st28, st29, st30, st31, st32, st33, st34, st35, st36, st37, st38, st39, st40, st41, st42, st43, st44, st45, st46, st47, st48, st49, st50, st51, st52, st53, st54, st55, st56, st57, st58, st59, st60, st61, st62, st63, st64, st65, st66, st67, st68, st69, st70, st71, st72, st73, st74, st75, st76, st77, st78, st79, st80, st81, st82, st83, st84, st85, st86, st87, st88, st89, st90, st91, R0, R_pile, R_operands, e1, n1, b01, inR, show ¬ (Y.length : Int) ≤ 0 by omega, show 0 < (Y.length : Int) by omega]))) <;> (try (first | omega | exact hz))
    | true =>
      have n2 := n2 rfl
      (repeat' (first | with_reducible assumption | (refine And.intro ?_ ?_) | (with_reducible intro _) | (simp [wp_ne 455, wpE, mk_X11_parse, mg, mc_X11_parse, lget, lset, popN, cats, rcv, entL, isArr, kC_s, kC_n, st1, st2, st3, st4, st5, st6, st7, st8, st9, st10, st11, st12, st13, st14, st15, st16, st17, st18, st19, st20, st21, st22, st23, st24, st25, st26, st27, st28, st29, st30, st31, st32, st33, st34, st35, st36, st37, st38, st39, st40, st41, st42, st43, st44, st45, st46, st47, st48, st49, st50, st51, st52, st53, st54, st55, st56, st57, st58, st59, st60, st61, st62, st63, st64, st65, st66, st67, st68, st69, st70, st71, st72, st73, st74, st75, st76, st77, st78, st79, st80, st81, st82, st83, st84, st85, st86, st87, st88, st89, st90, st91, R0, R_pile, R_operands, e1, n1, n2, b01, inR, show ¬ (Y.length : Int) ≤ 0 by omega, show 0 < (Y.length : Int) by omega]))) <;> (try (first | omega | exact hz))
theorem p455 {G : Nat → Nat} {d r w : Nat} {b c2 : Bool} {x1 x4 x6 : Option mV} {C : mQ} {X : mX} {Y : List Nat} {v3 : Int} {h : mH} (HR : RN r h) (hY : Y.length ≤ 120) (hw : w ≤ 100)
    (hz : ∀ x7 x8, wp G d 127 100053 [some (.inr (.inl (some r))), x1, some (.inl ((Y.length : Int) + 1)), some (.inl v3), some (.inl 1), some (.inl ((if (b || c2) = true then w + 1 else w : Nat) : Int)), x6, x7, x8] [] (hsetI h (r + 23) Y.length (if b = true then 11 else 10)) 0 0 C X) :
    wp G d 127 455 [some (.inr (.inl (some r))), x1, some (.inl (Y.length : Int)), some (.inl v3), x4, some (.inl (w : Int)), x6, some (.inl (b01 b)), some (.inl (b01 c2))] [] h 0 0 C X := by
  have R0 := HR.1; have R_pile := rn_pile HR; have R_operands := rn_operands HR
  have e1 : (w : Int) - 1 + 1 = (w : Int) := by omega
  cases b <;> cases c2
  all_goals
    simp at hz
    simp [b01]
    (repeat' (first | with_reducible assumption | (refine And.intro ?_ ?_) | (with_reducible intro _) | (simp [wp_eq, wpE, mk_X11_parse, mg, mc_X11_parse, lget, lset, popN, cats, rcv, entL, isArr, kC_s, kC_n, st1, st2, st3, st4, st5, st6, st7, st8, st9, st10, st11, st12, st13, st14, st15, st16, st17, st18, st19, st20, st21, st22, st23, st24, st25, st26, st27, st28, st29, st30, st31, st32, st33, st34, st35, st36, st37, st38, st39, st40, st41, st42, st43, st44, st45, st46, st47, st48, st49, st50, st51, st52, st53, st54, st55, st56, st57, st58, st59, st60, st61, st62, st63, st64, st65, st66, st67, st68, st69, st70, st71, st72, st73, st74, st75, st76, st77, st78, st79, st80, st81, st82, st83, st84, st85, st86, st87, st88, st89, st90, st91, R0, R_pile, R_operands, e1, inR]))) <;> (try (first | omega | exact hz))
    all_goals first | omega | exact hz _ _
theorem pl_push {r k : Nat} {h : mH} {Y : List Nat} (H : PIL r h Y) : PIL r (hsetI h (r + 23) Y.length (k : Int)) (Y ++ [k]) := fun i y hi => by
  by_cases hil : i < Y.length
  · rw [List.getElem?_append_left hil] at hi
    rw [hvi_I, if_neg (by omega)]; exact H i y hi
  · rw [List.getElem?_append_right (by omega)] at hi
    have hi0 : i - Y.length = 0 := by
      cases hq : i - Y.length with
      | zero => rfl
      | succ j => rw [hq] at hi; simp at hi
    rw [hi0] at hi
    simp at hi
    subst hi
    rw [hvi_I, if_pos (by omega)]
theorem pileL_top : ∀ (Ls : List aV) (i : Nat), (pileL Ls).length = i + 1 → (pileL Ls)[i]? = some 12 := by
  intro Ls
  cases Ls with
  | nil => intro i hi; simp [pileL] at hi
  | cons V Ls =>
    intro i hi
    simp only [pileL] at hi ⊢
    rw [← List.append_assoc] at hi ⊢
    have hi2 : i = (pileL Ls ++ pileV V).length := by simp only [List.length_append, List.length_cons, List.length_nil] at hi ⊢; omega
    rw [List.getElem?_append_right (by omega), hi2, Nat.sub_self]
    rfl
theorem pAO {G : Nat → Nat} {d r w N : Nat} {b c2 : Bool} {x1 x4 x6 : Option mV} {C : mQ} {X : mX} {h : mH} {M : List Int} {z : aZ} {e : bT} (hd : 3 ≤ d) (hc : z.2.2 = some e) (hk : z.2.1.2.2 = 0) (HR : RN r h) (HN : NW r h N M) (HL : PIL r h (pileZ z)) (HO : OP r h N (opsZ z)) (hb : bnz z N ≤ 51) (hl : z.1.length ≤ 50) (hw : w ≤ 100)
    (hC : ∀ h' N' x7 x8, chJ (sR r sPP) h h' → NW r h' N' M → PIL r h' (pileZ (if b = true then shO z else shA z)) → OP r h' N' (opsZ (if b = true then shO z else shA z)) → bnz (if b = true then shO z else shA z) N' = bnz z N → wp G d 127 100053 [some (.inr (.inl (some r))), x1, some (.inl ((pileZ (if b = true then shO z else shA z)).length : Int)), some (.inl ((opsZ (if b = true then shO z else shA z)).length : Int)), some (.inl 1), some (.inl ((if (b || c2) = true then w + 1 else w : Nat) : Int)), x6, x7, x8] [] h' 0 0 C X) :
    wp G d 127 100402 [some (.inr (.inl (some r))), x1, some (.inl ((pileZ z).length : Int)), some (.inl ((opsZ z).length : Int)), x4, some (.inl (w : Int)), x6, some (.inl (b01 b)), some (.inl (b01 c2))] [] h 0 0 C X := by
  have hpl := pileZ_len z
  obtain ⟨Ls, ⟨o, a, k⟩, cu⟩ := z
  simp only at hc hk hl
  subst hc hk
  simp only [Option.toList, List.length_cons, List.length_nil] at hpl
  have hb' : N + (opsL Ls ++ (opsV (o, a, 0) ++ [e])).length + pndL Ls ≤ 51 := hb
  have hpl' : (pileL Ls ++ pileV (o, a, 0)).length ≤ 120 := by
    have e1 : (pileZ (Ls, (o, a, 0), some e)).length = (pileL Ls ++ pileV (o, a, 0)).length := rfl
    have e2 : bnz (Ls, (o, a, 0), some e) N = N + (opsZ (Ls, (o, a, 0), some e)).length + pnd (Ls, (o, a, 0), some e) := rfl
    omega
  have key : H402 G d r w b x1 x4 x6 (some (.inl (b01 c2))) C X (pileL Ls ++ pileV (o, a, 0)) (opsL Ls ++ (opsV (o, a, 0) ++ [e])) N h := by
    refine redA (M := M) (h0 := h) (pop402 hd (Or.inl rfl)) ⟨HR, HN, HL, HO, chJ_refl⟩ (by omega) hpl' (fun N1 h1 n1 S1 => ?_)
    have hpl1 : (pileL Ls ++ pileV (o, none, 0)).length ≤ 120 := by
      cases a with
      | none => exact hpl'
      | some A => cases o <;> simp [pileV] at hpl' ⊢ <;> omega
    cases b with
    | false =>
      refine stop402 S1.1 hpl1 (fun i hi => ⟨?_, fun q => by cases q⟩) (p455 S1.1 hpl1 hw (fun x7 x8 => ?_))
      · cases o with
        | none =>
          have e1 : pileL Ls ++ pileV (none, none, 0) = pileL Ls := by simp [pileV]
          rw [e1] at hi S1
          rw [S1.2.2.1 i 12 (pileL_top Ls i hi)]; simp
        | some O =>
          have e1 : pileL Ls ++ pileV (some O, none, 0) = pileL Ls ++ [11] := by simp [pileV]
          rw [e1] at hi S1
          simp at hi
          subst hi
          rw [pl_top S1.2.2.1]; simp
      · have e1 : pileZ (shA (Ls, (o, a, 0), some e)) = (pileL Ls ++ pileV (o, none, 0)) ++ [10] := by cases o <;> simp [shA, pileZ, pileV]
        have e2 : opsZ (shA (Ls, (o, a, 0), some e)) = opsL Ls ++ (opsV (o, none, 0) ++ [coA a e]) := by cases o <;> simp [shA, opsZ, opsV]
        have q2 : chJ (sR r sPP) h1 (hsetI h1 (r + 23) (pileL Ls ++ pileV (o, none, 0)).length ((10 : Nat) : Int)) := chJ_set (by simp [sR, sPP])
        have hfin := hC (hsetI h1 (r + 23) (pileL Ls ++ pileV (o, none, 0)).length ((10 : Nat) : Int)) N1 x7 x8 (chJ_trans (chJ_sub S1.2.2.2.2 (by simp [sAP, sPP])) q2) (NW_ch (l := [23]) (chJ_set (by simp [sR])) (by simp) S1.2.1) (by
          rw [if_neg (by simp), e1]; exact pl_push S1.2.2.1) (by
          rw [if_neg (by simp), e2]; exact OP_ch (l := [23]) (chJ_set (by simp [sR])) (by simp) S1.2.2.2.1) (by
          rw [if_neg (by simp)]; unfold bnz; rw [e2]; show N1 + _ + (pndL Ls + 0) = N + (opsL Ls ++ (opsV (o, a, 0) ++ [e])).length + (pndL Ls + 0); omega)
        rw [if_neg (by simp), e1, e2] at hfin
        rw [show (((pileL Ls ++ pileV (o, none, 0)) ++ [10] : List Nat).length : Int) = ((pileL Ls ++ pileV (o, none, 0)).length : Int) + 1 by rw [List.length_append]; rfl] at hfin
        exact hfin
    | true =>
      refine redO (M := M) (h0 := h) (pop402 hd (Or.inr ⟨rfl, rfl⟩)) S1 (by omega) hpl1 (fun N2 h2 n2 S2 => ?_)
      have hpl2 : (pileL Ls).length ≤ 120 := by simp at hpl1; omega
      refine stop402 S2.1 hpl2 (fun i hi => by rw [S2.2.2.1 i 12 (pileL_top Ls i hi)]; simp) (p455 S2.1 hpl2 hw (fun x7 x8 => ?_))
      have e1 : pileZ (shO (Ls, (o, a, 0), some e)) = pileL Ls ++ [11] := by simp [shO, pileZ, pileV]
      have e2 : opsZ (shO (Ls, (o, a, 0), some e)) = opsL Ls ++ [coO o (coA a e)] := by simp [shO, opsZ, opsV]
      have q2 : chJ (sR r sPP) h2 (hsetI h2 (r + 23) (pileL Ls).length ((11 : Nat) : Int)) := chJ_set (by simp [sR, sPP])
      have hfin := hC (hsetI h2 (r + 23) (pileL Ls).length ((11 : Nat) : Int)) N2 x7 x8 (chJ_trans (chJ_sub S2.2.2.2.2 (by simp [sAP, sPP])) q2) (NW_ch (l := [23]) (chJ_set (by simp [sR])) (by simp) S2.2.1) (by
        rw [if_pos rfl, e1]; exact pl_push S2.2.2.1) (by
        rw [if_pos rfl, e2]; exact OP_ch (l := [23]) (chJ_set (by simp [sR])) (by simp) S2.2.2.2.1) (by
        rw [if_pos rfl]; unfold bnz; rw [e2]; show N2 + _ + (pndL Ls + 0) = N + (opsL Ls ++ (opsV (o, a, 0) ++ [e])).length + (pndL Ls + 0); omega)
      rw [if_pos rfl, e1, e2] at hfin
      rw [show ((pileL Ls ++ [11] : List Nat).length : Int) = ((pileL Ls).length : Int) + 1 by rw [List.length_append]; rfl] at hfin
      exact hfin
  exact key
