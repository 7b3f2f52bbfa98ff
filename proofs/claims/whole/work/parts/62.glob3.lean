theorem c_isInSet {G : Nat → Nat} {d g l to o cl : Nat} {h : mH} {C : mQ} {X : mX} {L : List Int} {c : Int} (HG : GL g l h to) (H : LI l h L) (hcl : cl ≤ L.length) (ho : o < cl) (hC : C (some (.inl (b01 (isn (lf L) o cl c)))) h) :
    callG (wp G) d 24 0 0 9 [.inr (.inl (some g)), .inl (o : Int), .inl (cl : Int), .inl c] h C X := by
  obtain ⟨g1, g2, g3⟩ := HG
  have HH := H
  obtain ⟨⟨a1, a2, a3, a4, a5, a6, a7⟩, ⟨b1, b2, b3, b4, b5⟩, b6⟩ := HH
  unfold isn at hC
  refine ⟨C, fun _ _ => False, ?_, fun _ _ q => q, fun _ _ q => q.elim⟩
  by_cases h1 : o + 1 < cl
  · have hc := b3 (o + 1) (by omega)
    have h1i : (o : Int) + 1 < (cl : Int) := by omega
    have e1 : ((o : Int) + 1).toNat = o + 1 := by omega
    by_cases h33 : lf L (o + 1) = 33
    · have hb : isBut (lf L) o cl = true := by simp [isBut, h1, h33]
      rw [hb, if_pos rfl] at hC
      have hz := fun x0 x1 => ins_loop2 (G := G) (d := d - 1) (C := C) (X := fun _ _ => False) (x0 := x0) (x1 := x1) (b := true) H hcl (cl + 1) (o + 2) none none (by omega) (by omega) hC
      simp only [b01, if_true] at hz
      (repeat' (first | with_reducible assumption | (refine And.intro ?_ ?_) | (with_reducible intro _) | (simp [wp_eq, wpE, mk_X3_isInSet, mg, mc_X3_isInSet, lget, lset, popN, cats, rcv, entL, isArr, kC_s, kC_n, st1, st2, st3, st4, st5, st6, st7, st8, st9, st10, st11, st12, st13, st14, st15, st16, st17, st18, st19, st20, st21, st22, st23, st24, st25, st26, st27, st28, st29, st30, st31, st32, st33, st34, st35, st36, st37, st38, st39, st40, st41, st42, st43, st44, st45, st46, st47, st48, st49, st50, st51, st52, st53, st54, st55, st56, st57, st58, st59, st60, st61, st62, st63, st64, st65, st66, st67, st68, st69, st70, st71, st72, st73, st74, st75, st76, st77, st78, st79, st80, st81, st82, st83, st84, st85, st86, st87, st88, st89, st90, st91, g1, g2, a1, a2, a5, h1, h1i, e1, hc, h33, inR]))) <;> (try (first | omega | exact hz))
      all_goals exact hz _ _
    · have hb : isBut (lf L) o cl = false := by simp [isBut, h33]
      rw [hb, if_neg (by simp)] at hC
      have hz := fun x0 x1 => ins_loop2 (G := G) (d := d - 1) (C := C) (X := fun _ _ => False) (x0 := x0) (x1 := x1) (b := false) H hcl (cl + 1) (o + 1) none none (by omega) (by omega) hC
      simp [b01] at hz
      (repeat' (first | with_reducible assumption | (refine And.intro ?_ ?_) | (with_reducible intro _) | (simp [wp_eq, wpE, mk_X3_isInSet, mg, mc_X3_isInSet, lget, lset, popN, cats, rcv, entL, isArr, kC_s, kC_n, st1, st2, st3, st4, st5, st6, st7, st8, st9, st10, st11, st12, st13, st14, st15, st16, st17, st18, st19, st20, st21, st22, st23, st24, st25, st26, st27, st28, st29, st30, st31, st32, st33, st34, st35, st36, st37, st38, st39, st40, st41, st42, st43, st44, st45, st46, st47, st48, st49, st50, st51, st52, st53, st54, st55, st56, st57, st58, st59, st60, st61, st62, st63, st64, st65, st66, st67, st68, st69, st70, st71, st72, st73, st74, st75, st76, st77, st78, st79, st80, st81, st82, st83, st84, st85, st86, st87, st88, st89, st90, st91, g1, g2, a1, a2, a5, h1, h1i, e1, hc, h33, inR]))) <;> (try (first | omega | exact hz))
      all_goals exact hz _ _
  · have hb : isBut (lf L) o cl = false := by simp [isBut, h1]
    rw [hb, if_neg (by simp)] at hC
    have h1i : ¬ (o : Int) + 1 < (cl : Int) := by omega
    have hz := fun x0 x1 => ins_loop2 (G := G) (d := d - 1) (C := C) (X := fun _ _ => False) (x0 := x0) (x1 := x1) (b := false) H hcl (cl + 1) (o + 1) none none (by omega) (by omega) hC
    simp [b01] at hz
    (repeat' (first | with_reducible assumption | (refine And.intro ?_ ?_) | (with_reducible intro _) | (simp [wp_eq, wpE, mk_X3_isInSet, mg, mc_X3_isInSet, lget, lset, popN, cats, rcv, entL, isArr, kC_s, kC_n, st1, st2, st3, st4, st5, st6, st7, st8, st9, st10, st11, st12, st13, st14, st15, st16, st17, st18, st19, st20, st21, st22, st23, st24, st25, st26, st27, st28, st29, st30, st31, st32, st33, st34, st35, st36, st37, st38, st39, st40, st41, st42, st43, st44, st45, st46, st47, st48, st49, st50, st51, st52, st53, st54, st55, st56, st57, st58, st59, st60, st61, st62, st63, st64, st65, st66, st67, st68, st69, st70, st71, st72, st73, st74, st75, st76, st77, st78, st79, st80, st81, st82, st83, st84, st85, st86, st87, st88, st89, st90, st91, g1, g2, a1, a2, a5, h1, h1i, inR]))) <;> (try (first | omega | exact hz))
    all_goals exact hz _ _
