/-! PATTERNS: where a set ends -/
def f93 (f : Nat → Int) (to : Nat) : Nat → Nat → Int
  | 0, _ => -1
  | m + 1, k => if k < to then (if f k = 93 then (k : Int) else f93 f to m (k + 1)) else -1
def insd (f : Nat → Int) (to o : Nat) : Nat := if o + 1 < to ∧ f (o + 1) = 33 then o + 2 else o + 1
def clsg (f : Nat → Int) (to o : Nat) : Int := f93 f to (to + 1) (insd f to o + 1)
def GL (g l : Nat) (h : mH) (to : Nat) : Prop := hty h g = some (3, 2) ∧ hvr h g 0 = some l ∧ hvi h g 1 = (to : Int)
theorem cls_loop {G : Nat → Nat} {d g l to : Nat} {h : mH} {C : mQ} {X : mX} {L : List Int} {x1 x2 x3 : Option mV} (HG : GL g l h to) (H : LI l h L) (hto : to ≤ L.length) : ∀ (m k : Nat), to < m + k → k ≤ to + 2 → C (some (.inl (f93 (lf L) to m k))) h →
    wp G d 23 100051 [some (.inr (.inl (some g))), x1, x2, x3, some (.inl (k : Int))] [] h 0 0 C X := by
  obtain ⟨g1, g2, g3⟩ := HG
  obtain ⟨⟨a1, a2, a3, a4, a5, a6, a7⟩, ⟨b1, b2, b3, b4, b5⟩, b6⟩ := H
  intro m
  induction m with
  | zero =>
    intro k hk hk2 hz
    simp only [f93] at hz
    rw [wp_hd]
    (repeat' (first | with_reducible assumption | (refine And.intro ?_ ?_) | (with_reducible intro _) | (simp [wp_eq, wpE, mk_X3_closing, mg, mc_X3_closing, lget, lset, popN, cats, rcv, entL, isArr, kC_s, kC_n, st1, st2, st3, st4, st5, st6, st7, st8, st9, st10, st11, st12, st13, st14, st15, st16, st17, st18, st19, st20, st21, st22, st23, st24, st25, st26, st27, st28, st29, st30, st31, st32, st33, st34, st35, st36, st37, st38, st39, st40, st41, st42, st43, st44, st45, st46, st47, st48, st49, st50, st51, st52, st53, st54, st55, st56, st57, st58, st59, st60, st61, st62, st63, st64, st65, st66, st67, st68, st69, st70, st71, st72, st73, st74, st75, st76, st77, st78, st79, st80, st81, st82, st83, st84, st85, st86, st87, st88, st89, st90, st91, g1, g3]))) <;> (try (first | omega | exact hz))
  | succ m ih =>
    intro k hk hk2 hz
    simp only [f93] at hz
    rw [wp_hd]
    by_cases hkt : k < to
    · have hc := b3 k (by omega)
      rw [if_pos hkt] at hz
      by_cases h93 : lf L k = 93
      · rw [if_pos h93] at hz
        (repeat' (first | with_reducible assumption | (refine And.intro ?_ ?_) | (with_reducible intro _) | (simp [wp_eq, wpE, mk_X3_closing, mg, mc_X3_closing, lget, lset, popN, cats, rcv, entL, isArr, kC_s, kC_n, st1, st2, st3, st4, st5, st6, st7, st8, st9, st10, st11, st12, st13, st14, st15, st16, st17, st18, st19, st20, st21, st22, st23, st24, st25, st26, st27, st28, st29, st30, st31, st32, st33, st34, st35, st36, st37, st38, st39, st40, st41, st42, st43, st44, st45, st46, st47, st48, st49, st50, st51, st52, st53, st54, st55, st56, st57, st58, st59, st60, st61, st62, st63, st64, st65, st66, st67, st68, st69, st70, st71, st72, st73, st74, st75, st76, st77, st78, st79, st80, st81, st82, st83, st84, st85, st86, st87, st88, st89, st90, st91, g1, g2, g3, a1, a2, a5, hkt, hc, h93, inR]))) <;> (try (first | omega | exact hz))
      · rw [if_neg h93] at hz
        have hz := ih (k + 1) (by omega) (by omega) hz
        (repeat' (first | with_reducible assumption | (refine And.intro ?_ ?_) | (with_reducible intro _) | (simp [wp_eq, wpE, mk_X3_closing, mg, mc_X3_closing, lget, lset, popN, cats, rcv, entL, isArr, kC_s, kC_n, st1, st2, st3, st4, st5, st6, st7, st8, st9, st10, st11, st12, st13, st14, st15, st16, st17, st18, st19, st20, st21, st22, st23, st24, st25, st26, st27, st28, st29, st30, st31, st32, st33, st34, st35, st36, st37, st38, st39, st40, st41, st42, st43, st44, st45, st46, st47, st48, st49, st50, st51, st52, st53, st54, st55, st56, st57, st58, st59, st60, st61, st62, st63, st64, st65, st66, st67, st68, st69, st70, st71, st72, st73, st74, st75, st76, st77, st78, st79, st80, st81, st82, st83, st84, st85, st86, st87, st88, st89, st90, st91, g1, g2, g3, a1, a2, a5, hkt, hc, h93, inR]))) <;> (try (first | omega | exact hz))
    · rw [if_neg hkt] at hz
      (repeat' (first | with_reducible assumption | (refine And.intro ?_ ?_) | (with_reducible intro _) | (simp [wp_eq, wpE, mk_X3_closing, mg, mc_X3_closing, lget, lset, popN, cats, rcv, entL, isArr, kC_s, kC_n, st1, st2, st3, st4, st5, st6, st7, st8, st9, st10, st11, st12, st13, st14, st15, st16, st17, st18, st19, st20, st21, st22, st23, st24, st25, st26, st27, st28, st29, st30, st31, st32, st33, st34, st35, st36, st37, st38, st39, st40, st41, st42, st43, st44, st45, st46, st47, st48, st49, st50, st51, st52, st53, st54, st55, st56, st57, st58, st59, st60, st61, st62, st63, st64, st65, st66, st67, st68, st69, st70, st71, st72, st73, st74, st75, st76, st77, st78, st79, st80, st81, st82, st83, st84, st85, st86, st87, st88, st89, st90, st91, g1, g3, hkt]))) <;> (try (first | omega | exact hz))
theorem c_closing {G : Nat → Nat} {d g l to o : Nat} {h : mH} {C : mQ} {X : mX} {L : List Int} (HG : GL g l h to) (H : LI l h L) (hto : to ≤ L.length) (ho : o < to) (hC : C (some (.inl (clsg (lf L) to o))) h) :
    callG (wp G) d 23 0 0 5 [.inr (.inl (some g)), .inl (o : Int)] h C X := by
  have HG' := HG
  obtain ⟨g1, g2, g3⟩ := HG'
  have HH := H
  obtain ⟨⟨a1, a2, a3, a4, a5, a6, a7⟩, ⟨b1, b2, b3, b4, b5⟩, b6⟩ := HH
  unfold clsg insd at hC
  refine ⟨C, fun _ _ => False, ?_, fun _ _ q => q, fun _ _ q => q.elim⟩
  by_cases h1 : o + 1 < to
  · have hc := b3 (o + 1) (by omega)
    have h1i : (o : Int) + 1 < (to : Int) := by omega
    have e1 : ((o : Int) + 1).toNat = o + 1 := by omega
    by_cases h33 : lf L (o + 1) = 33
    · rw [if_pos ⟨h1, h33⟩] at hC
      have hz := fun x1 x2 x3 => cls_loop (G := G) (d := d - 1) (C := C) (X := fun _ _ => False) (x1 := x1) (x2 := x2) (x3 := x3) HG H hto (to + 1) (o + 2 + 1) (by omega) (by omega) hC
      (repeat' (first | with_reducible assumption | (refine And.intro ?_ ?_) | (with_reducible intro _) | (simp [wp_eq, wpE, mk_X3_closing, mg, mc_X3_closing, lget, lset, popN, cats, rcv, entL, isArr, kC_s, kC_n, st1, st2, st3, st4, st5, st6, st7, st8, st9, st10, st11, st12, st13, st14, st15, st16, st17, st18, st19, st20, st21, st22, st23, st24, st25, st26, st27, st28, st29, st30, st31, st32, st33, st34, st35, st36, st37, st38, st39, st40, st41, st42, st43, st44, st45, st46, st47, st48, st49, st50, st51, st52, st53, st54, st55, st56, st57, st58, st59, st60, st61, st62, st63, st64, st65, st66, st67, st68, st69, st70, st71, st72, st73, st74, st75, st76, st77, st78, st79, st80, st81, st82, st83, st84, st85, st86, st87, st88, st89, st90, st91, g1, g2, g3, a1, a2, a5, h1, h1i, e1, hc, h33, inR]))) <;> (try (first | omega | exact hz))
      all_goals exact hz _ _ _
    · rw [if_neg (fun q => h33 q.2)] at hC
      have hz := fun x1 x2 x3 => cls_loop (G := G) (d := d - 1) (C := C) (X := fun _ _ => False) (x1 := x1) (x2 := x2) (x3 := x3) HG H hto (to + 1) (o + 1 + 1) (by omega) (by omega) hC
      (repeat' (first | with_reducible assumption | (refine And.intro ?_ ?_) | (with_reducible intro _) | (simp [wp_eq, wpE, mk_X3_closing, mg, mc_X3_closing, lget, lset, popN, cats, rcv, entL, isArr, kC_s, kC_n, st1, st2, st3, st4, st5, st6, st7, st8, st9, st10, st11, st12, st13, st14, st15, st16, st17, st18, st19, st20, st21, st22, st23, st24, st25, st26, st27, st28, st29, st30, st31, st32, st33, st34, st35, st36, st37, st38, st39, st40, st41, st42, st43, st44, st45, st46, st47, st48, st49, st50, st51, st52, st53, st54, st55, st56, st57, st58, st59, st60, st61, st62, st63, st64, st65, st66, st67, st68, st69, st70, st71, st72, st73, st74, st75, st76, st77, st78, st79, st80, st81, st82, st83, st84, st85, st86, st87, st88, st89, st90, st91, g1, g2, g3, a1, a2, a5, h1, h1i, e1, hc, h33, inR]))) <;> (try (first | omega | exact hz))
      all_goals exact hz _ _ _
  · rw [if_neg (fun q => h1 q.1)] at hC
    have h1i : ¬ (o : Int) + 1 < (to : Int) := by omega
    have hz := fun x1 x2 x3 => cls_loop (G := G) (d := d - 1) (C := C) (X := fun _ _ => False) (x1 := x1) (x2 := x2) (x3 := x3) HG H hto (to + 1) (o + 1 + 1) (by omega) (by omega) hC
    (repeat' (first | with_reducible assumption | (refine And.intro ?_ ?_) | (with_reducible intro _) | (simp [wp_eq, wpE, mk_X3_closing, mg, mc_X3_closing, lget, lset, popN, cats, rcv, entL, isArr, kC_s, kC_n, st1, st2, st3, st4, st5, st6, st7, st8, st9, st10, st11, st12, st13, st14, st15, st16, st17, st18, st19, st20, st21, st22, st23, st24, st25, st26, st27, st28, st29, st30, st31, st32, st33, st34, st35, st36, st37, st38, st39, st40, st41, st42, st43, st44, st45, st46, st47, st48, st49, st50, st51, st52, st53, st54, st55, st56, st57, st58, st59, st60, st61, st62, st63, st64, st65, st66, st67, st68, st69, st70, st71, st72, st73, st74, st75, st76, st77, st78, st79, st80, st81, st82, st83, st84, st85, st86, st87, st88, st89, st90, st91, g1, g2, g3, h1, h1i, inR]))) <;> (try (first | omega | exact hz))
    all_goals exact hz _ _ _
