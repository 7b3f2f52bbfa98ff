/-! the reference: a closing word, and the end -/
theorem scanN {G : Nat → Nat} {d r w : Nat} {x1 x2 x3 x4 x6 x8 : Option mV} {C : mQ} {X : mX} {h : mH} (HR : RN r h) (hz : C (some (.inl (w : Int))) h) : ∀ j : Nat, j ≤ 120 → (∀ i, i < j → ¬ hvi h (r + 23) i = 12) → wp G d 127 100259 [some (.inr (.inl (some r))), x1, x2, x3, x4, some (.inl (w : Int)), x6, some (.inl (j : Int)), x8] [] h 0 0 C X := by
  have R0 := HR.1; have R_pile := rn_pile HR; have R_operands := rn_operands HR
  intro j
  induction j with
  | zero =>
    intro _ _
    rw [wp_hd]
    (repeat' (first | with_reducible assumption | (refine And.intro ?_ ?_) | (with_reducible intro _) | (simp [wp_eq, wpE, mk_X11_parse, mg, mc_X11_parse, lget, lset, popN, cats, rcv, entL, isArr, kC_s, kC_n, st1, st2, st3, st4, st5, st6, st7, st8, st9, st10, st11, st12, st13, st14, st15, st16, st17, st18, st19, st20, st21, st22, st23, st24, st25, st26, st27, st28, st29, st30, st31, st32, st33, st34, st35, st36, st37, st38, st39, st40, st41, st42, st43, st44, st45, st46, st47, st48, st49, st50, st51, st52, st53, st54, st55, st56, st57, st58, st59, st60, st61, st62, st63, st64, st65, st66, st67, st68, st69, st70, st71, st72, st73, st74, st75, st76, st77, st78, st79, st80, st81, st82, st83, st84, st85, st86, st87, st88, st89, st90, st91, R0, R_pile, R_operands]))) <;> (try (first | omega | exact hz))
  | succ j ih =>
    intro hj hn
    have n1 := hn j (by omega)
    have hz := ih (by omega) (fun i hi => hn i (by omega))
    rw [wp_hd]
    (repeat' (first | with_reducible assumption | (refine And.intro ?_ ?_) | (with_reducible intro _) | (simp [wp_eq, wpE, mk_X11_parse, mg, mc_X11_parse, lget, lset, popN, cats, rcv, entL, isArr, kC_s, kC_n, st1, st2, st3, st4, st5, st6, st7, st8, st9, st10, st11, st12, st13, st14, st15, st16, st17, st18, st19, st20, st21, st22, st23, st24, st25, st26, st27, st28, st29, st30, st31, st32, st33, st34, st35, st36, st37, st38, st39, st40, st41, st42, st43, st44, st45, st46, st47, st48, st49, st50, st51, st52, st53, st54, st55, st56, st57, st58, st59, st60, st61, st62, st63, st64, st65, st66, st67, st68, st69, st70, st71, st72, st73, st74, st75, st76, st77, st78, st79, st80, st81, st82, st83, st84, st85, st86, st87, st88, st89, st90, st91, R0, R_pile, R_operands, n1, inR, show (j : Int) + 1 + -1 = (j : Int) by omega]))) <;> (try (first | omega | exact hz))
theorem scanY {G : Nat → Nat} {d r w : Nat} {x1 x2 x3 x4 x6 x8 : Option mV} {C : mQ} {X : mX} {h : mH} (HR : RN r h) (hz : ∀ x7, wp G d 127 100292 [some (.inr (.inl (some r))), x1, x2, x3, x4, some (.inl (w : Int)), x6, x7, x8] [] h 0 0 C X) : ∀ j : Nat, j ≤ 120 → (∃ i, i < j ∧ hvi h (r + 23) i = 12) → wp G d 127 100259 [some (.inr (.inl (some r))), x1, x2, x3, x4, some (.inl (w : Int)), x6, some (.inl (j : Int)), x8] [] h 0 0 C X := by
  have R0 := HR.1; have R_pile := rn_pile HR; have R_operands := rn_operands HR
  intro j
  induction j with
  | zero => intro _ ⟨i, hi, _⟩; omega
  | succ j ih =>
    intro hj ⟨i, hi, h12⟩
    rw [wp_hd]
    by_cases n1 : hvi h (r + 23) j = 12
    · (repeat' (first | with_reducible assumption | (refine And.intro ?_ ?_) | (with_reducible intro _) | (simp [wp_eq, wpE, mk_X11_parse, mg, mc_X11_parse, lget, lset, popN, cats, rcv, entL, isArr, kC_s, kC_n, st1, st2, st3, st4, st5, st6, st7, st8, st9, st10, st11, st12, st13, st14, st15, st16, st17, st18, st19, st20, st21, st22, st23, st24, st25, st26, st27, st28, st29, st30, st31, st32, st33, st34, st35, st36, st37, st38, st39, st40, st41, st42, st43, st44, st45, st46, st47, st48, st49, st50, st51, st52, st53, st54, st55, st56, st57, st58, st59, st60, st61, st62, st63, st64, st65, st66, st67, st68, st69, st70, st71, st72, st73, st74, st75, st76, st77, st78, st79, st80, st81, st82, st83, st84, st85, st86, st87, st88, st89, st90, st91, R0, R_pile, R_operands, n1, inR]))) <;> (try (first | omega | exact hz))
      all_goals first | omega | exact hz _
    · have hz := ih (by omega) ⟨i, by
        by_cases hij : i = j
        · subst hij; exact absurd h12 n1
        · omega, h12⟩
      (repeat' (first | with_reducible assumption | (refine And.intro ?_ ?_) | (with_reducible intro _) | (simp [wp_eq, wpE, mk_X11_parse, mg, mc_X11_parse, lget, lset, popN, cats, rcv, entL, isArr, kC_s, kC_n, st1, st2, st3, st4, st5, st6, st7, st8, st9, st10, st11, st12, st13, st14, st15, st16, st17, st18, st19, st20, st21, st22, st23, st24, st25, st26, st27, st28, st29, st30, st31, st32, st33, st34, st35, st36, st37, st38, st39, st40, st41, st42, st43, st44, st45, st46, st47, st48, st49, st50, st51, st52, st53, st54, st55, st56, st57, st58, st59, st60, st61, st62, st63, st64, st65, st66, st67, st68, st69, st70, st71, st72, st73, st74, st75, st76, st77, st78, st79, st80, st81, st82, st83, st84, st85, st86, st87, st88, st89, st90, st91, R0, R_pile, R_operands, n1, inR, show (j : Int) + 1 + -1 = (j : Int) by omega]))) <;> (try (first | omega | exact hz))
def H292 (G : Nat → Nat) (d r w : Nat) (x1 x4 x6 x7 x8 : Option mV) (C : mQ) (X : mX) : List Nat → List bT → Nat → mH → Prop := fun Y Q _ h => wp G d 127 100292 [some (.inr (.inl (some r))), x1, some (.inl (Y.length : Int)), some (.inl (Q.length : Int)), x4, some (.inl (w : Int)), x6, x7, x8] [] h 0 0 C X
theorem pop292 {G : Nat → Nat} {d r w : Nat} {x1 x4 x6 x7 x8 : Option mV} {C : mQ} {X : mX} {M : List Int} {h0 : mH} (hd : 3 ≤ d) {k : Nat} (hk : k = 10 ∨ k = 11) : popR r M h0 (H292 G d r w x1 x4 x6 x7 x8 C X) k := by
  intro Y Q x y N h hN hQ hY hS hC
  have hd0 : (0 < d) = True := eq_true (by omega)
  have HR := hS.1
  have R0 := HR.1; have R_pile := rn_pile HR; have R_operands := rn_operands HR
  have ct := pl_top hS.2.2.1
  have e0 : ((Y ++ [k]).length : Int) = (Y.length : Int) + 1 := by simp
  have e1 : ((Y.length : Int) + 1 - 1).toNat = Y.length := by omega
  have e2 : (Y.length : Int) + 1 + -1 = (Y.length : Int) := by omega
  have e3 : ((Q ++ [x, y]).length : Int) = ((Q.length + 2 : Nat) : Int) := by simp
  unfold H292 at hC ⊢
  rw [e0, e3, wp_hd]
  have cat : ∀ {C : mQ} {X : mX}, (∀ h', StP r M h0 Y (Q ++ [opB k x y]) (N + 1) h' → C (some (.inl ((Q ++ [opB k x y]).length : Int))) h') → callG (wp G) d 130 0 0 3 [.inr (.inl (some r)), .inl (k : Int), .inl ((Q.length + 2 : Nat) : Int)] h C X := fun {C X} z => r_applyTwo (e := opB k x y) (by omega) HR hS.2.1 hN hS.2.2.2.1 hQ rfl (by rcases hk with rfl | rfl <;> simp [opB]) (fun h' q1 q2 q3 => z h' (StP_two hS q1 q2 q3))
  have hz := hC
  rcases hk with rfl | rfl
  all_goals
    (repeat' (first | with_reducible assumption | (refine cat ?_) | (refine And.intro ?_ ?_) | (with_reducible intro _) | (simp [wp_eq, wpE, mk_X11_parse, mg, mc_X11_parse, lget, lset, popN, cats, rcv, entL, isArr, kC_s, kC_n, st1, st2, st3, st4, st5, st6, st7, st8, st9, st10, st11, st12, st13, st14, st15, st16, st17, st18, st19, st20, st21, st22, st23, st24, st25, st26, st27, st28, st29, st30, st31, st32, st33, st34, st35, st36, st37, st38, st39, st40, st41, st42, st43, st44, st45, st46, st47, st48, st49, st50, st51, st52, st53, st54, st55, st56, st57, st58, st59, st60, st61, st62, st63, st64, st65, st66, st67, st68, st69, st70, st71, st72, st73, st74, st75, st76, st77, st78, st79, st80, st81, st82, st83, st84, st85, st86, st87, st88, st89, st90, st91, R0, R_pile, R_operands, -Int.natCast_add, -List.length_append, ct, e1, e2, hd0, inR]))) <;> (try (first | omega | exact hz))
    all_goals first | omega | exact hz _ (by assumption)
theorem pileV_top {o a : Option bT} {Ls : List aV} {i : Nat} (hi : (pileL Ls ++ pileV (o, a, 0)).length = i + 1) : ¬ (pileL Ls ++ pileV (o, a, 0))[i]? = some 9 := by
  cases a with
  | some A =>
    have e1 : pileL Ls ++ pileV (o, some A, 0) = (pileL Ls ++ pileV (o, none, 0)) ++ [10] := by cases o <;> simp [pileV]
    rw [e1] at hi ⊢
    simp only [List.length_append, List.length_cons, List.length_nil] at hi
    rw [List.getElem?_append_right (by simp only [List.length_append]; omega)]
    simp only [List.length_append]
    rw [show i - ((pileL Ls).length + (pileV (o, none, 0)).length) = 0 by omega]
    simp
  | none =>
    cases o with
    | some O =>
      have e1 : pileL Ls ++ pileV (some O, none, 0) = pileL Ls ++ [11] := by simp [pileV]
      rw [e1] at hi ⊢
      simp only [List.length_append, List.length_cons, List.length_nil] at hi
      rw [List.getElem?_append_right (by omega), show i - (pileL Ls).length = 0 by omega]
      simp
    | none =>
      have e1 : pileL Ls ++ pileV (none, none, 0) = pileL Ls := by simp [pileV]
      rw [e1] at hi ⊢
      rw [pileL_top Ls i hi]
      simp
/-- the state behind a closing word -/
theorem pCl {G : Nat → Nat} {d r w N : Nat} {x1 x6 x7 x8 : Option mV} {C : mQ} {X : mX} {h : mH} {M : List Int} {z : aZ} {e : bT} (hd : 3 ≤ d) (hc : z.2.2 = some e) (hk : z.2.1.2.2 = 0) (hz1 : ¬ z.1 = []) (HR : RN r h) (HN : NW r h N M) (HL : PIL r h (pileZ z)) (HO : OP r h N (opsZ z)) (hb : bnz z N ≤ 51) (hl : z.1.length ≤ 50) (hw : w ≤ 100)
    (hC : ∀ h' N' x7 x8, chJ (sR r sPP) h h' → NW r h' N' M → PIL r h' (pileZ (shC z)) → OP r h' N' (opsZ (shC z)) → bnz (shC z) N' = bnz z N → wp G d 127 100053 [some (.inr (.inl (some r))), x1, some (.inl ((pileZ (shC z)).length : Int)), some (.inl ((opsZ (shC z)).length : Int)), some (.inl 0), some (.inl ((w + 1 : Nat) : Int)), x6, x7, x8] [] h' 0 0 C X) :
    wp G d 127 100292 [some (.inr (.inl (some r))), x1, some (.inl ((pileZ z).length : Int)), some (.inl ((opsZ z).length : Int)), some (.inl 0), some (.inl (w : Int)), x6, x7, x8] [] h 0 0 C X := by
  have hd0 : (0 < d) = True := eq_true (by omega)
  have hpl := pileZ_len z
  obtain ⟨Ls, ⟨o, a, k⟩, cu⟩ := z
  simp only at hc hk hl hz1
  subst hc hk
  cases Ls with
  | nil => exact absurd rfl hz1
  | cons V Ls =>
    obtain ⟨o1, a1, k1⟩ := V
    simp only [Option.toList, List.length_cons, List.length_nil] at hpl
    have hb' : N + (opsL ((o1, a1, k1) :: Ls) ++ (opsV (o, a, 0) ++ [e])).length + (pndL Ls + k1) ≤ 51 := hb
    have hpl' : (pileL ((o1, a1, k1) :: Ls) ++ pileV (o, a, 0)).length ≤ 120 := by
      have e1 : (pileZ ((o1, a1, k1) :: Ls, (o, a, 0), some e)).length = (pileL ((o1, a1, k1) :: Ls) ++ pileV (o, a, 0)).length := rfl
      have e2 : bnz ((o1, a1, k1) :: Ls, (o, a, 0), some e) N = N + (opsZ ((o1, a1, k1) :: Ls, (o, a, 0), some e)).length + pnd ((o1, a1, k1) :: Ls, (o, a, 0), some e) := rfl
      simp only [List.length_cons] at hl
      omega
    have key : H292 G d r w x1 (some (.inl 0)) x6 x7 x8 C X (pileL ((o1, a1, k1) :: Ls) ++ pileV (o, a, 0)) (opsL ((o1, a1, k1) :: Ls) ++ (opsV (o, a, 0) ++ [e])) N h := by
      refine redA (M := M) (h0 := h) (pop292 hd (Or.inl rfl)) ⟨HR, HN, HL, HO, chJ_refl⟩ (by omega) hpl' (fun N1 h1 n1 S1 => ?_)
      have hpl1 : (pileL ((o1, a1, k1) :: Ls) ++ pileV (o, none, 0)).length ≤ 120 := by
        cases a with
        | none => exact hpl'
        | some A => cases o <;> simp [pileV] at hpl' ⊢ <;> omega
      refine redO (M := M) (h0 := h) (pop292 hd (Or.inr rfl)) S1 (by omega) hpl1 (fun N2 h2 n2 S2 => ?_)
      have hpl2 : (pileL ((o1, a1, k1) :: Ls)).length ≤ 120 := by simp at hpl1; omega
      have e1 : pileL ((o1, a1, k1) :: Ls) = ((pileL Ls ++ pileV (o1, a1, 0)) ++ List.replicate k1 9) ++ [12] := by cases o1 <;> cases a1 <;> simp [pileL, pileV]
      have e2 : opsL ((o1, a1, k1) :: Ls) = opsL Ls ++ opsV (o1, a1, 0) := rfl
      have S2' := S2
      rw [e1, e2] at S2'
      rw [e1] at hpl2
      simp only [List.length_append, List.length_cons, List.length_nil, List.length_replicate] at hpl2
      have HR2 := S2.1
      have R0 := HR2.1; have R_pile := rn_pile HR2; have R_operands := rn_operands HR2
      have ct := pl_top S2'.2.2.1
      have hb2 : N2 + (opsL Ls ++ opsV (o1, a1, 0) ++ [coO o (coA a e)]).length + (pndL Ls + k1) ≤ 51 := by
        rw [← e2]; omega
      simp only [List.length_append, List.length_cons, List.length_nil] at hb2
      have sB := PIL_pre S2'.2.2.1
      have sO := S2'.2.2.2.1
      have eC1 : pileZ (shC ((o1, a1, k1) :: Ls, (o, a, 0), some e)) = pileL Ls ++ pileV (o1, a1, 0) := rfl
      have eC2 : opsZ (shC ((o1, a1, k1) :: Ls, (o, a, 0), some e)) = (opsL Ls ++ opsV (o1, a1, 0)) ++ [nts k1 (coO o (coA a e))] := by simp [shC, opsZ]
      have lC : ((opsL Ls ++ opsV (o1, a1, 0)) ++ [coO o (coA a e)]).length = (opsL Ls ++ opsV (o1, a1, 0)).length + 1 := by rw [List.length_append]; rfl
      have lC2 : ((opsL Ls ++ opsV (o1, a1, 0)) ++ [nts k1 (coO o (coA a e))]).length = (opsL Ls ++ opsV (o1, a1, 0)).length + 1 := by rw [List.length_append]; rfl
      have nb : bnz (shC ((o1, a1, k1) :: Ls, (o, a, 0), some e)) (N2 + k1) = bnz ((o1, a1, k1) :: Ls, (o, a, 0), some e) N := by
        unfold bnz
        rw [eC2, lC2]
        have n2' : N2 + (opsL ((o1, a1, k1) :: Ls) ++ [coO o (coA a e)]).length = N1 + (opsL ((o1, a1, k1) :: Ls) ++ (opsV (o, none, 0) ++ [coA a e])).length := n2
        rw [e2] at n2'
        rw [lC] at n2'
        rw [e2] at n1
        show N2 + k1 + _ + (pndL Ls + 0) = N + (opsL ((o1, a1, k1) :: Ls) ++ (opsV (o, a, 0) ++ [e])).length + (pndL Ls + k1 + 0)
        rw [e2]
        omega
      have hY9 : ∀ i, (pileL Ls ++ pileV (o1, a1, 0)).length = i + 1 → ¬ (pileL Ls ++ pileV (o1, a1, 0))[i]? = some 9 := fun i hi => pileV_top hi
      have hYk : (pileL Ls ++ pileV (o1, a1, 0)).length + k1 ≤ 119 := by simp only [List.length_append]; omega
      have hQ60 : (opsL Ls ++ opsV (o1, a1, 0)).length + 1 ≤ 60 := by simp only [List.length_append]; omega
      have hfin := fun h' x7 x8 q1 q2 q3 q4 => hC h' (N2 + k1) x7 x8 q1 q2 q3 q4 nb
      rw [eC1, eC2, lC2] at hfin
      have cn : ∀ {C : mQ} {X : mX} {y zz : Int}, y = (((pileL Ls ++ pileV (o1, a1, 0)).length + k1 : Nat) : Int) → zz = (((opsL Ls ++ opsV (o1, a1, 0)).length + 1 : Nat) : Int) → (∀ h', chJ (sR r sAP) h2 h' → NW r h' (N2 + k1) M → OP r h' (N2 + k1) ((opsL Ls ++ opsV (o1, a1, 0)) ++ [nts k1 (coO o (coA a e))]) → C (some (.inl ((pileL Ls ++ pileV (o1, a1, 0)).length : Int))) h') → callG (wp G) d 129 0 0 4 [.inr (.inl (some r)), .inl y, .inl zz] h2 C X := fun {C X y zz} hy hzz z => r_applyNots (by omega) hQ60 (by omega) (by omega) HR2 S2.2.1 sO sB hY9 hy hzz z
      unfold H292
      rw [e1, e2, lC]
      rw [show ((((pileL Ls ++ pileV (o1, a1, 0)) ++ List.replicate k1 9) ++ [12] : List Nat).length : Int) = (((pileL Ls ++ pileV (o1, a1, 0)).length + k1 : Nat) : Int) + 1 by rw [List.length_append, List.length_append, List.length_replicate]; rfl]
      rw [show ((pileL Ls ++ pileV (o1, a1, 0)) ++ List.replicate k1 9 : List Nat).length = (pileL Ls ++ pileV (o1, a1, 0)).length + k1 by rw [List.length_append, List.length_replicate]] at ct
      have hfin2 := fun h' x7 x8 (q1 : chJ (sR r sAP) h2 h') q2 q4 => hfin h' x7 x8 (chJ_trans (chJ_sub S2.2.2.2.2 (by simp [sAP, sPP])) (chJ_sub q1 (by simp [sAP, sPP]))) q2 (PIL_ch q1 (by simp [sAP]) (PIL_pre sB)) q4
      generalize (pileL Ls ++ pileV (o1, a1, 0)).length = by1 at *
      generalize (opsL Ls ++ opsV (o1, a1, 0)).length = by2 at *
      have z1 : (((by1 + k1 : Nat) : Int) + 1 - 1).toNat = by1 + k1 := by omega
      have z2 : ((by1 + k1 : Nat) : Int) + 1 + -1 = ((by1 + k1 : Nat) : Int) := by omega
      rw [wp_hd]
      have hz := hfin2
      (repeat' (first | with_reducible assumption | (refine cn rfl rfl ?_) | (refine And.intro ?_ ?_) | (with_reducible intro _) | (simp [wp_eq, wpE, mk_X11_parse, mg, mc_X11_parse, lget, lset, popN, cats, rcv, entL, isArr, kC_s, kC_n, st1, st2, st3, st4, st5, st6, st7, st8, st9, st10, st11, st12, st13, st14, st15, st16, st17, st18, st19, st20, st21, st22, st23, st24, st25, st26, st27, st28, st29, st30, st31, st32, st33, st34, st35, st36, st37, st38, st39, st40, st41, st42, st43, st44, st45, st46, st47, st48, st49, st50, st51, st52, st53, st54, st55, st56, st57, st58, st59, st60, st61, st62, st63, st64, st65, st66, st67, st68, st69, st70, st71, st72, st73, st74, st75, st76, st77, st78, st79, st80, st81, st82, st83, st84, st85, st86, st87, st88, st89, st90, st91, R0, R_pile, R_operands, -Int.natCast_add, ct, z1, z2, hd0, inR, show (w : Int) + 1 = ((w + 1 : Nat) : Int) by omega]))) <;> (try (first | omega | exact hz))
      all_goals first | omega | exact hz _ _ _ (by assumption) (by assumption) (by assumption)
    exact key
def H516 (G : Nat → Nat) (d r : Nat) (x1 x4 x5 x6 x7 x8 : Option mV) (C : mQ) (X : mX) : List Nat → List bT → Nat → mH → Prop := fun Y Q _ h => wp G d 127 100516 [some (.inr (.inl (some r))), x1, some (.inl (Y.length : Int)), some (.inl (Q.length : Int)), x4, x5, x6, x7, x8] [] h 0 0 C X
theorem pop516 {G : Nat → Nat} {d r : Nat} {x1 x4 x5 x6 x7 x8 : Option mV} {C : mQ} {X : mX} {M : List Int} {h0 : mH} (hd : 3 ≤ d) {k : Nat} (hk : k = 10 ∨ k = 11) : popR r M h0 (H516 G d r x1 x4 x5 x6 x7 x8 C X) k := by
  intro Y Q x y N h hN hQ hY hS hC
  have hd0 : (0 < d) = True := eq_true (by omega)
  have HR := hS.1
  have R0 := HR.1; have R_pile := rn_pile HR; have R_operands := rn_operands HR
  have ct := pl_top hS.2.2.1
  have e0 : ((Y ++ [k]).length : Int) = (Y.length : Int) + 1 := by simp
  have e2 : (Y.length : Int) + 1 + -1 = (Y.length : Int) := by omega
  have e3 : ((Q ++ [x, y]).length : Int) = ((Q.length + 2 : Nat) : Int) := by simp
  unfold H516 at hC ⊢
  rw [e0, e3, wp_hd]
  have cat : ∀ {C : mQ} {X : mX}, (∀ h', StP r M h0 Y (Q ++ [opB k x y]) (N + 1) h' → C (some (.inl ((Q ++ [opB k x y]).length : Int))) h') → callG (wp G) d 130 0 0 3 [.inr (.inl (some r)), .inl (k : Int), .inl ((Q.length + 2 : Nat) : Int)] h C X := fun {C X} z => r_applyTwo (e := opB k x y) (by omega) HR hS.2.1 hN hS.2.2.2.1 hQ rfl (by rcases hk with rfl | rfl <;> simp [opB]) (fun h' q1 q2 q3 => z h' (StP_two hS q1 q2 q3))
  have hz := hC
  rcases hk with rfl | rfl
  all_goals
    (repeat' (first | with_reducible assumption | (refine cat ?_) | (refine And.intro ?_ ?_) | (with_reducible intro _) | (simp [wp_eq, wpE, mk_X11_parse, mg, mc_X11_parse, lget, lset, popN, cats, rcv, entL, isArr, kC_s, kC_n, st1, st2, st3, st4, st5, st6, st7, st8, st9, st10, st11, st12, st13, st14, st15, st16, st17, st18, st19, st20, st21, st22, st23, st24, st25, st26, st27, st28, st29, st30, st31, st32, st33, st34, st35, st36, st37, st38, st39, st40, st41, st42, st43, st44, st45, st46, st47, st48, st49, st50, st51, st52, st53, st54, st55, st56, st57, st58, st59, st60, st61, st62, st63, st64, st65, st66, st67, st68, st69, st70, st71, st72, st73, st74, st75, st76, st77, st78, st79, st80, st81, st82, st83, st84, st85, st86, st87, st88, st89, st90, st91, R0, R_pile, R_operands, -Int.natCast_add, -List.length_append, ct, e2, hd0, inR, show ¬ (Y.length : Int) + 1 ≤ 0 by omega, show 0 < (Y.length : Int) + 1 by omega]))) <;> (try (first | omega | exact hz))
    all_goals first | omega | exact hz _ (by assumption)
/-- the end of the words -/
theorem pEnd {G : Nat → Nat} {d r N : Nat} {x1 x4 x5 x6 x7 x8 : Option mV} {C : mQ} {X : mX} {h : mH} {M L : List Int} {z : aZ} {e : bT} (hd : 3 ≤ d) (hc : z.2.2 = some e) (hk : z.2.1.2.2 = 0) (HR : RN r h) (h16 : hvi h r 16 = ((wds L).length : Int)) (HN : NW r h N M) (HL : PIL r h (pileZ z)) (HO : OP r h N (opsZ z)) (hb : bnz z N ≤ 51) (hl : z.1.length ≤ 50)
    (hE : ¬ z.1 = [] → ∀ h', chJ (sR r sPP) h h' → C (some (.inl ((wds L).length : Int))) h')
    (hC : z.1 = [] → ∀ h' N' p, chJ (sR r sAP) h h' → NW r h' N' M → N' ≤ 51 → p < N' → PH r h' (coO z.2.1.1 (coA z.2.1.2.1 e)) p → C (some (.inl (-1))) (hsetI h' r 35 (p : Int))) :
    wp G d 127 100516 [some (.inr (.inl (some r))), x1, some (.inl ((pileZ z).length : Int)), some (.inl ((opsZ z).length : Int)), x4, x5, x6, x7, x8] [] h 0 0 C X := by
  have hpl := pileZ_len z
  obtain ⟨Ls, ⟨o, a, k⟩, cu⟩ := z
  simp only at hc hk hl
  subst hc hk
  simp only [Option.toList, List.length_cons, List.length_nil] at hpl
  have hb' : N + (opsL Ls ++ (opsV (o, a, 0) ++ [e])).length + pndL Ls ≤ 51 := hb
  have hpl' : (pileL Ls ++ pileV (o, a, 0)).length ≤ 120 := by
    have e1 : (pileZ (Ls, (o, a, 0), some e)).length = (pileL Ls ++ pileV (o, a, 0)).length := rfl
    have e2 : bnz (Ls, (o, a, 0), some e) N = N + (opsZ (Ls, (o, a, 0), some e)).length + pnd (Ls, (o, a, 0), some e) := rfl
    omega
  have key : H516 G d r x1 x4 x5 x6 x7 x8 C X (pileL Ls ++ pileV (o, a, 0)) (opsL Ls ++ (opsV (o, a, 0) ++ [e])) N h := by
    refine redA (M := M) (h0 := h) (pop516 hd (Or.inl rfl)) ⟨HR, HN, HL, HO, chJ_refl⟩ (by omega) hpl' (fun N1 h1 n1 S1 => ?_)
    have hpl1 : (pileL Ls ++ pileV (o, none, 0)).length ≤ 120 := by
      cases a with
      | none => exact hpl'
      | some A => cases o <;> simp [pileV] at hpl' ⊢ <;> omega
    refine redO (M := M) (h0 := h) (pop516 hd (Or.inr rfl)) S1 (by omega) hpl1 (fun N2 h2 n2 S2 => ?_)
    have hpl2 : (pileL Ls).length ≤ 120 := by simp at hpl1; omega
    have HR2 := S2.1
    have R0 := HR2.1; have R_pile := rn_pile HR2; have R_operands := rn_operands HR2
    unfold H516
    rw [wp_hd]
    cases Ls with
    | nil =>
      obtain ⟨p, p1, p2, p3⟩ := S2.2.2.2.1 0 (coO o (coA a e)) (by simp [opsL])
      have hz := hC rfl h2 N2 p S2.2.2.2.2 S2.2.1 (by omega) p1 p3
      simp only [pileL, opsL, List.length_nil, List.nil_append, List.length_cons]
      (repeat' (first | with_reducible assumption | (refine And.intro ?_ ?_) | (with_reducible intro _) | (simp [wp_eq, wpE, mk_X11_parse, mg, mc_X11_parse, lget, lset, popN, cats, rcv, entL, isArr, kC_s, kC_n, st1, st2, st3, st4, st5, st6, st7, st8, st9, st10, st11, st12, st13, st14, st15, st16, st17, st18, st19, st20, st21, st22, st23, st24, st25, st26, st27, st28, st29, st30, st31, st32, st33, st34, st35, st36, st37, st38, st39, st40, st41, st42, st43, st44, st45, st46, st47, st48, st49, st50, st51, st52, st53, st54, st55, st56, st57, st58, st59, st60, st61, st62, st63, st64, st65, st66, st67, st68, st69, st70, st71, st72, st73, st74, st75, st76, st77, st78, st79, st80, st81, st82, st83, st84, st85, st86, st87, st88, st89, st90, st91, R0, R_pile, R_operands, p2, hty_I, hvi_I, hvr_I, hvl_I, hsz_I, hty_R, hvi_R, hvr_R, hvl_R, hsz_R, hty_L, hvi_L, hvr_L, hvl_L, hsz_L, hty_P, hvi_P, hvr_P, hvl_P, hsz_P, hty_C, hvi_C, hvr_C, hvl_C, hsz_C]))) <;> (try (first | omega | exact hz))
    | cons V Ls =>
      have e1 : pileL (V :: Ls) = (pileL Ls ++ pileV V) ++ [12] := by simp [pileL]
      have hz := hE (by simp) h2 (chJ_sub S2.2.2.2.2 (by simp [sAP, sPP]))
      have ct : hvi h2 (r + 23) (pileL Ls ++ pileV V).length = 12 := by have := S2.2.2.1; rw [e1] at this; exact pl_top this
      have c16 : hvi h2 r 16 = ((wds L).length : Int) := by rw [chJ_fld S2.2.2.2.2 (by simp [sAP]) (by simp [sAP])]; exact h16
      rw [e1] at hpl2 ⊢
      rw [show (((pileL Ls ++ pileV V) ++ [12] : List Nat).length : Int) = ((pileL Ls ++ pileV V).length : Int) + 1 by rw [List.length_append]; rfl]
      simp only [List.length_append, List.length_cons, List.length_nil] at hpl2
      have hh : (pileL Ls ++ pileV V).length < 120 := by simp only [List.length_append]; omega
      generalize (pileL Ls ++ pileV V).length = by1 at *
      (repeat' (first | with_reducible assumption | (refine And.intro ?_ ?_) | (with_reducible intro _) | (simp [wp_eq, wpE, mk_X11_parse, mg, mc_X11_parse, lget, lset, popN, cats, rcv, entL, isArr, kC_s, kC_n, st1, st2, st3, st4, st5, st6, st7, st8, st9, st10, st11, st12, st13, st14, st15, st16, st17, st18, st19, st20, st21, st22, st23, st24, st25, st26, st27, st28, st29, st30, st31, st32, st33, st34, st35, st36, st37, st38, st39, st40, st41, st42, st43, st44, st45, st46, st47, st48, st49, st50, st51, st52, st53, st54, st55, st56, st57, st58, st59, st60, st61, st62, st63, st64, st65, st66, st67, st68, st69, st70, st71, st72, st73, st74, st75, st76, st77, st78, st79, st80, st81, st82, st83, st84, st85, st86, st87, st88, st89, st90, st91, R0, R_pile, R_operands, ct, c16, inR, show (by1 : Int) + 1 + -1 = (by1 : Int) by omega]))) <;> (try (first | omega | exact hz))
  exact key
