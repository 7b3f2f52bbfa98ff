def inS (f : Nat → Int) (cl : Nat) (c : Int) : Nat → Nat → Bool
  | 0, _ => false
  | m + 1, k => if k < cl then (if k + 2 < cl ∧ f (k + 1) = 45 then (if f k ≤ c ∧ c ≤ f (k + 2) then true else inS f cl c m (k + 3)) else (if f k ≤ c ∧ c ≤ f k then true else inS f cl c m (k + 1))) else false
def isBut (f : Nat → Int) (o cl : Nat) : Bool := decide (o + 1 < cl) && (f (o + 1) == 33)
def isn (f : Nat → Int) (o cl : Nat) (c : Int) : Bool := xor (inS f cl c (cl + 1) (if isBut f o cl = true then o + 2 else o + 1)) (isBut f o cl)
theorem ins_loop2 {G : Nat → Nat} {d l cl : Nat} {h : mH} {C : mQ} {X : mX} {L : List Int} {c : Int} {b : Bool} {x0 x1 : Option mV} (H : LI l h L) (hcl : cl ≤ L.length) : ∀ (m k : Nat) (x7 x8 : Option mV), cl < m + k → k ≤ cl + 3 → C (some (.inl (b01 (xor (inS (lf L) cl c m k) b)))) h →
    wp G d 24 100050 [x0, x1, some (.inl (cl : Int)), some (.inl c), some (.inr (.inl (some (l + 1)))), some (.inl (b01 b)), some (.inl (k : Int)), x7, x8] [] h 0 0 C X := by
  obtain ⟨⟨a1, a2, a3, a4, a5, a6, a7⟩, ⟨b1, b2, b3, b4, b5⟩, b6⟩ := H
  intro m
  induction m with
  | zero =>
    intro k x7 x8 hk hk2 hz
    simp only [inS] at hz
    rw [wp_hd]
    cases b
    all_goals
      simp [b01] at hz
      (repeat' (first | with_reducible assumption | (refine And.intro ?_ ?_) | (with_reducible intro _) | (simp [wp_eq, wpE, mk_X3_isInSet, mg, mc_X3_isInSet, lget, lset, popN, cats, rcv, entL, isArr, kC_s, kC_n, st1, st2, st3, st4, st5, st6, st7, st8, st9, st10, st11, st12, st13, st14, st15, st16, st17, st18, st19, st20, st21, st22, st23, st24, st25, st26, st27, st28, st29, st30, st31, st32, st33, st34, st35, st36, st37, st38, st39, st40, st41, st42, st43, st44, st45, st46, st47, st48, st49, st50, st51, st52, st53, st54, st55, st56, st57, st58, st59, st60, st61, st62, st63, st64, st65, st66, st67, st68, st69, st70, st71, st72, st73, st74, st75, st76, st77, st78, st79, st80, st81, st82, st83, st84, st85, st86, st87, st88, st89, st90, st91, b01]))) <;> (try (first | omega | exact hz))
  | succ m ih =>
    intro k x7 x8 hk hk2 hC
    simp only [inS] at hC
    rw [wp_hd]
    by_cases hkc : k < cl
    · rw [if_pos hkc] at hC
      have c0 := b3 k (by omega)
      have e1 : ((k : Int) + 1).toNat = k + 1 := by omega
      have e2 : ((k : Int) + 2).toNat = k + 2 := by omega
      by_cases h2 : k + 2 < cl
      · have h2i : (k : Int) + 2 < (cl : Int) := by omega
        have c1 := b3 (k + 1) (by omega)
        have c2 := b3 (k + 2) (by omega)
        by_cases h45 : lf L (k + 1) = 45
        · rw [if_pos ⟨h2, h45⟩] at hC
          by_cases hm : lf L k ≤ c ∧ c ≤ lf L (k + 2)
          · rw [if_pos hm] at hC
            cases b
            all_goals
              simp [b01] at hC
              (repeat' (first | with_reducible assumption | (refine And.intro ?_ ?_) | (with_reducible intro _) | (simp [wp_eq, wpE, mk_X3_isInSet, mg, mc_X3_isInSet, lget, lset, popN, cats, rcv, entL, isArr, kC_s, kC_n, st1, st2, st3, st4, st5, st6, st7, st8, st9, st10, st11, st12, st13, st14, st15, st16, st17, st18, st19, st20, st21, st22, st23, st24, st25, st26, st27, st28, st29, st30, st31, st32, st33, st34, st35, st36, st37, st38, st39, st40, st41, st42, st43, st44, st45, st46, st47, st48, st49, st50, st51, st52, st53, st54, st55, st56, st57, st58, st59, st60, st61, st62, st63, st64, st65, st66, st67, st68, st69, st70, st71, st72, st73, st74, st75, st76, st77, st78, st79, st80, st81, st82, st83, st84, st85, st86, st87, st88, st89, st90, st91, a5, hkc, h2, h2i, c0, c1, c2, h45, e1, e2, hm.1, hm.2, show ¬ c < lf L k by omega, show ¬ lf L (k + 2) < c by omega, b01, inR]))) <;> (try (first | omega | exact hz))
          · rw [if_neg hm] at hC
            have hz := fun x7 x8 => ih (k + 3) x7 x8 (by omega) (by omega) hC
            have f3 : (k : Int) + 2 + 1 = ((k + 3 : Nat) : Int) := by omega
            by_cases hm1 : c < lf L k
            · (repeat' (first | with_reducible assumption | (refine And.intro ?_ ?_) | (with_reducible intro _) | (simp [wp_eq, wpE, mk_X3_isInSet, mg, mc_X3_isInSet, lget, lset, popN, cats, rcv, entL, isArr, kC_s, kC_n, st1, st2, st3, st4, st5, st6, st7, st8, st9, st10, st11, st12, st13, st14, st15, st16, st17, st18, st19, st20, st21, st22, st23, st24, st25, st26, st27, st28, st29, st30, st31, st32, st33, st34, st35, st36, st37, st38, st39, st40, st41, st42, st43, st44, st45, st46, st47, st48, st49, st50, st51, st52, st53, st54, st55, st56, st57, st58, st59, st60, st61, st62, st63, st64, st65, st66, st67, st68, st69, st70, st71, st72, st73, st74, st75, st76, st77, st78, st79, st80, st81, st82, st83, st84, st85, st86, st87, st88, st89, st90, st91, -Int.natCast_add, a5, hkc, h2, h2i, c0, c1, c2, h45, e1, e2, hm1, f3, inR]))) <;> (try (first | omega | exact hz))
              all_goals first | omega | exact hz _ _
            · have hm2 : lf L (k + 2) < c := by omega
              (repeat' (first | with_reducible assumption | (refine And.intro ?_ ?_) | (with_reducible intro _) | (simp [wp_eq, wpE, mk_X3_isInSet, mg, mc_X3_isInSet, lget, lset, popN, cats, rcv, entL, isArr, kC_s, kC_n, st1, st2, st3, st4, st5, st6, st7, st8, st9, st10, st11, st12, st13, st14, st15, st16, st17, st18, st19, st20, st21, st22, st23, st24, st25, st26, st27, st28, st29, st30, st31, st32, st33, st34, st35, st36, st37, st38, st39, st40, st41, st42, st43, st44, st45, st46, st47, st48, st49, st50, st51, st52, st53, st54, st55, st56, st57, st58, st59, st60, st61, st62, st63, st64, st65, st66, st67, st68, st69, st70, st71, st72, st73, st74, st75, st76, st77, st78, st79, st80, st81, st82, st83, st84, st85, st86, st87, st88, st89, st90, st91, -Int.natCast_add, a5, hkc, h2, h2i, c0, c1, c2, h45, e1, e2, hm1, hm2, f3, inR]))) <;> (try (first | omega | exact hz))
              all_goals first | omega | exact hz _ _
        · rw [if_neg (fun q => h45 q.2)] at hC
          by_cases hm : lf L k ≤ c ∧ c ≤ lf L k
          · rw [if_pos hm] at hC
            cases b
            all_goals
              simp [b01] at hC
              (repeat' (first | with_reducible assumption | (refine And.intro ?_ ?_) | (with_reducible intro _) | (simp [wp_eq, wpE, mk_X3_isInSet, mg, mc_X3_isInSet, lget, lset, popN, cats, rcv, entL, isArr, kC_s, kC_n, st1, st2, st3, st4, st5, st6, st7, st8, st9, st10, st11, st12, st13, st14, st15, st16, st17, st18, st19, st20, st21, st22, st23, st24, st25, st26, st27, st28, st29, st30, st31, st32, st33, st34, st35, st36, st37, st38, st39, st40, st41, st42, st43, st44, st45, st46, st47, st48, st49, st50, st51, st52, st53, st54, st55, st56, st57, st58, st59, st60, st61, st62, st63, st64, st65, st66, st67, st68, st69, st70, st71, st72, st73, st74, st75, st76, st77, st78, st79, st80, st81, st82, st83, st84, st85, st86, st87, st88, st89, st90, st91, a5, hkc, h2, h2i, c0, c1, h45, e1, e2, hm.1, hm.2, show ¬ c < lf L k by omega, show ¬ lf L k < c by omega, b01, inR]))) <;> (try (first | omega | exact hz))
          · rw [if_neg hm] at hC
            have hz := fun x7 x8 => ih (k + 1) x7 x8 (by omega) (by omega) hC
            by_cases hm1 : c < lf L k
            · (repeat' (first | with_reducible assumption | (refine And.intro ?_ ?_) | (with_reducible intro _) | (simp [wp_eq, wpE, mk_X3_isInSet, mg, mc_X3_isInSet, lget, lset, popN, cats, rcv, entL, isArr, kC_s, kC_n, st1, st2, st3, st4, st5, st6, st7, st8, st9, st10, st11, st12, st13, st14, st15, st16, st17, st18, st19, st20, st21, st22, st23, st24, st25, st26, st27, st28, st29, st30, st31, st32, st33, st34, st35, st36, st37, st38, st39, st40, st41, st42, st43, st44, st45, st46, st47, st48, st49, st50, st51, st52, st53, st54, st55, st56, st57, st58, st59, st60, st61, st62, st63, st64, st65, st66, st67, st68, st69, st70, st71, st72, st73, st74, st75, st76, st77, st78, st79, st80, st81, st82, st83, st84, st85, st86, st87, st88, st89, st90, st91, a5, hkc, h2, h2i, c0, c1, h45, e1, e2, hm1, inR]))) <;> (try (first | omega | exact hz))
              all_goals first | omega | exact hz _ _
            · have hm2 : lf L k < c := by omega
              (repeat' (first | with_reducible assumption | (refine And.intro ?_ ?_) | (with_reducible intro _) | (simp [wp_eq, wpE, mk_X3_isInSet, mg, mc_X3_isInSet, lget, lset, popN, cats, rcv, entL, isArr, kC_s, kC_n, st1, st2, st3, st4, st5, st6, st7, st8, st9, st10, st11, st12, st13, st14, st15, st16, st17, st18, st19, st20, st21, st22, st23, st24, st25, st26, st27, st28, st29, st30, st31, st32, st33, st34, st35, st36, st37, st38, st39, st40, st41, st42, st43, st44, st45, st46, st47, st48, st49, st50, st51, st52, st53, st54, st55, st56, st57, st58, st59, st60, st61, st62, st63, st64, st65, st66, st67, st68, st69, st70, st71, st72, st73, st74, st75, st76, st77, st78, st79, st80, st81, st82, st83, st84, st85, st86, st87, st88, st89, st90, st91, a5, hkc, h2, h2i, c0, c1, h45, e1, e2, hm1, hm2, inR]))) <;> (try (first | omega | exact hz))
              all_goals first | omega | exact hz _ _
      · rw [if_neg (fun q => h2 q.1)] at hC
        have h2i : ¬ (k : Int) + 2 < (cl : Int) := by omega
        by_cases hm : lf L k ≤ c ∧ c ≤ lf L k
        · rw [if_pos hm] at hC
          cases b
          all_goals
            simp [b01] at hC
            (repeat' (first | with_reducible assumption | (refine And.intro ?_ ?_) | (with_reducible intro _) | (simp [wp_eq, wpE, mk_X3_isInSet, mg, mc_X3_isInSet, lget, lset, popN, cats, rcv, entL, isArr, kC_s, kC_n, st1, st2, st3, st4, st5, st6, st7, st8, st9, st10, st11, st12, st13, st14, st15, st16, st17, st18, st19, st20, st21, st22, st23, st24, st25, st26, st27, st28, st29, st30, st31, st32, st33, st34, st35, st36, st37, st38, st39, st40, st41, st42, st43, st44, st45, st46, st47, st48, st49, st50, st51, st52, st53, st54, st55, st56, st57, st58, st59, st60, st61, st62, st63, st64, st65, st66, st67, st68, st69, st70, st71, st72, st73, st74, st75, st76, st77, st78, st79, st80, st81, st82, st83, st84, st85, st86, st87, st88, st89, st90, st91, a5, hkc, h2, h2i, c0, hm.1, hm.2, show ¬ c < lf L k by omega, show ¬ lf L k < c by omega, b01, inR]))) <;> (try (first | omega | exact hz))
        · rw [if_neg hm] at hC
          have hz := fun x7 x8 => ih (k + 1) x7 x8 (by omega) (by omega) hC
          by_cases hm1 : c < lf L k
          · (repeat' (first | with_reducible assumption | (refine And.intro ?_ ?_) | (with_reducible intro _) | (simp [wp_eq, wpE, mk_X3_isInSet, mg, mc_X3_isInSet, lget, lset, popN, cats, rcv, entL, isArr, kC_s, kC_n, st1, st2, st3, st4, st5, st6, st7, st8, st9, st10, st11, st12, st13, st14, st15, st16, st17, st18, st19, st20, st21, st22, st23, st24, st25, st26, st27, st28, st29, st30, st31, st32, st33, st34, st35, st36, st37, st38, st39, st40, st41, st42, st43, st44, st45, st46, st47, st48, st49, st50, st51, st52, st53, st54, st55, st56, st57, st58, st59, st60, st61, st62, st63, st64, st65, st66, st67, st68, st69, st70, st71, st72, st73, st74, st75, st76, st77, st78, st79, st80, st81, st82, st83, st84, st85, st86, st87, st88, st89, st90, st91, a5, hkc, h2, h2i, c0, hm1, inR]))) <;> (try (first | omega | exact hz))
            all_goals first | omega | exact hz _ _
          · have hm2 : lf L k < c := by omega
            (repeat' (first | with_reducible assumption | (refine And.intro ?_ ?_) | (with_reducible intro _) | (simp [wp_eq, wpE, mk_X3_isInSet, mg, mc_X3_isInSet, lget, lset, popN, cats, rcv, entL, isArr, kC_s, kC_n, st1, st2, st3, st4, st5, st6, st7, st8, st9, st10, st11, st12, st13, st14, st15, st16, st17, st18, st19, st20, st21, st22, st23, st24, st25, st26, st27, st28, st29, st30, st31, st32, st33, st34, st35, st36, st37, st38, st39, st40, st41, st42, st43, st44, st45, st46, st47, st48, st49, st50, st51, st52, st53, st54, st55, st56, st57, st58, st59, st60, st61, st62, st63, st64, st65, st66, st67, st68, st69, st70, st71, st72, st73, st74, st75, st76, st77, st78, st79, st80, st81, st82, st83, st84, st85, st86, st87, st88, st89, st90, st91, a5, hkc, h2, h2i, c0, hm1, hm2, inR]))) <;> (try (first | omega | exact hz))
            all_goals first | omega | exact hz _ _
    · rw [if_neg hkc] at hC
      cases b
      all_goals
        simp [b01] at hC
        (repeat' (first | with_reducible assumption | (refine And.intro ?_ ?_) | (with_reducible intro _) | (simp [wp_eq, wpE, mk_X3_isInSet, mg, mc_X3_isInSet, lget, lset, popN, cats, rcv, entL, isArr, kC_s, kC_n, st1, st2, st3, st4, st5, st6, st7, st8, st9, st10, st11, st12, st13, st14, st15, st16, st17, st18, st19, st20, st21, st22, st23, st24, st25, st26, st27, st28, st29, st30, st31, st32, st33, st34, st35, st36, st37, st38, st39, st40, st41, st42, st43, st44, st45, st46, st47, st48, st49, st50, st51, st52, st53, st54, st55, st56, st57, st58, st59, st60, st61, st62, st63, st64, st65, st66, st67, st68, st69, st70, st71, st72, st73, st74, st75, st76, st77, st78, st79, st80, st81, st82, st83, st84, st85, st86, st87, st88, st89, st90, st91, hkc, b01]))) <;> (try (first | omega | exact hz))
