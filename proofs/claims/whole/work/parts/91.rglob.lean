/-! PATTERNS in the reference -/
theorem f93_fuel {f : Nat → Int} {to : Nat} : ∀ (m m' k : Nat), to < m + k → to < m' + k → f93 f to m k = f93 f to m' k := by
  intro m
  induction m with
  | zero =>
    intro m' k h1 h2
    cases m' with
    | zero => rfl
    | succ m' => simp only [f93]; rw [if_neg (by omega)]
  | succ m ih =>
    intro m' k h1 h2
    cases m' with
    | zero => simp only [f93]; rw [if_neg (by omega)]
    | succ m' =>
      simp only [f93]
      rw [ih m' (k + 1) (by omega) (by omega)]
theorem f93_s {f : Nat → Int} {to k : Nat} : f93 f to (to + 1) k = if k < to then (if f k = 93 then (k : Int) else f93 f to (to + 1) (k + 1)) else -1 := by
  rw [show f93 f to (to + 1) k = (if k < to then (if f k = 93 then (k : Int) else f93 f to to (k + 1)) else -1) from rfl, f93_fuel to (to + 1) (k + 1) (by omega) (by omega)]
def se1 (z : Int) : Int := if z = -1 then -1 else z + 1
theorem set_loop {G : Nat → Nat} {d r to : Nat} {h : mH} {C : mQ} {X : mX} {L : List Int} {x1 : Option mV} (HR : RN r h) (HP : RP r h L) (hl : L.length ≤ 100) (hto : to ≤ L.length) : ∀ (m j : Nat) (b : Bool), to + 3 < m + j → j ≤ to + 3 → C (some (.inl (se1 (f93 (lf L) to (to + 1) (if b = true then j + 1 else j))))) h →
    wp G d 131 100031 [some (.inr (.inl (some r))), x1, some (.inl (to : Int)), some (.inl (j : Int)), some (.inl (b01 b))] [] h 0 0 C X := by
  have R0 := HR.1; have R_line := rn_line HR
  intro m
  induction m with
  | zero => intro j b h1 h2; omega
  | succ m ih =>
    intro j b hm hj hC
    rw [wp_hd]
    by_cases hjt : j < to
    · have cj := HP.2 j (by omega) (by omega)
      have e1 : ((j : Int) + 1).toNat = j + 1 := by omega
      have e2 : ((j : Int) + 2).toNat = j + 2 := by omega
      -- the step
      have step : ¬ (b = false ∧ lf L j = 93) → ∀ z, (z = (if j + 2 < to ∧ lf L (j + 1) = 45 ∧ ¬ lf L (j + 2) = 93 then j + 3 else j + 1)) → wp G d 131 100031 [some (.inr (.inl (some r))), x1, some (.inl (to : Int)), some (.inl (z : Int)), some (.inl 0)] [] h 0 0 C X := by
        intro hb z hz
        have hq := ih z false (by split at hz <;> omega) (by split at hz <;> omega) (by
          rw [if_neg (by simp)]
          have key : f93 (lf L) to (to + 1) z = f93 (lf L) to (to + 1) (if b = true then j + 1 else j) := by
            have hj1 : f93 (lf L) to (to + 1) (if b = true then j + 1 else j) = f93 (lf L) to (to + 1) (j + 1) := by
              cases b with
              | true => rw [if_pos rfl]
              | false =>
                rw [if_neg (by simp), f93_s, if_pos hjt, if_neg (fun q => hb ⟨rfl, q⟩)]
            rw [hj1]
            by_cases hs : j + 2 < to ∧ lf L (j + 1) = 45 ∧ ¬ lf L (j + 2) = 93
            · rw [if_pos hs] at hz
              rw [hz, f93_s (k := j + 1), if_pos (by omega), if_neg (by rw [hs.2.1]; omega), f93_s (k := j + 1 + 1), if_pos (by omega), if_neg hs.2.2]
            · rw [if_neg hs] at hz
              rw [hz]
          rw [key]; exact hC)
        simpa [b01] using hq
      have fin : ∀ x4, ¬ (b = false ∧ lf L j = 93) → wp G d 131 52 [some (.inr (.inl (some r))), x1, some (.inl (to : Int)), some (.inl (j : Int)), x4] [] h 0 0 C X := by
        intro x4 hb
        have hst := step hb
        by_cases h2 : j + 2 < to
        · have h2i : (j : Int) + 2 < (to : Int) := by omega
          have c1 := HP.2 (j + 1) (by omega) (by omega)
          have c2 := HP.2 (j + 2) (by omega) (by omega)
          by_cases h45 : lf L (j + 1) = 45
          · by_cases h93 : lf L (j + 2) = 93
            · have hz := hst (j + 1) (by rw [if_neg (fun q => q.2.2 h93)])
              (repeat' (first | with_reducible assumption | (refine And.intro ?_ ?_) | (with_reducible intro _) | (simp [wp_eq, wpE, mk_X11_setEnd, mg, mc_X11_setEnd, lget, lset, popN, cats, rcv, entL, isArr, kC_s, kC_n, st1, st2, st3, st4, st5, st6, st7, st8, st9, st10, st11, st12, st13, st14, st15, st16, st17, st18, st19, st20, st21, st22, st23, st24, st25, st26, st27, st28, st29, st30, st31, st32, st33, st34, st35, st36, st37, st38, st39, st40, st41, st42, st43, st44, st45, st46, st47, st48, st49, st50, st51, st52, st53, st54, st55, st56, st57, st58, st59, st60, st61, st62, st63, st64, st65, st66, st67, st68, st69, st70, st71, st72, st73, st74, st75, st76, st77, st78, st79, st80, st81, st82, st83, st84, st85, st86, st87, st88, st89, st90, st91, R0, R_line, h2, h2i, c1, c2, e1, e2, h45, h93, inR]))) <;> (try (first | omega | exact hz))
            · have hz := hst (j + 3) (by rw [if_pos ⟨h2, h45, h93⟩])
              (repeat' (first | with_reducible assumption | (refine And.intro ?_ ?_) | (with_reducible intro _) | (simp [wp_eq, wpE, mk_X11_setEnd, mg, mc_X11_setEnd, lget, lset, popN, cats, rcv, entL, isArr, kC_s, kC_n, st1, st2, st3, st4, st5, st6, st7, st8, st9, st10, st11, st12, st13, st14, st15, st16, st17, st18, st19, st20, st21, st22, st23, st24, st25, st26, st27, st28, st29, st30, st31, st32, st33, st34, st35, st36, st37, st38, st39, st40, st41, st42, st43, st44, st45, st46, st47, st48, st49, st50, st51, st52, st53, st54, st55, st56, st57, st58, st59, st60, st61, st62, st63, st64, st65, st66, st67, st68, st69, st70, st71, st72, st73, st74, st75, st76, st77, st78, st79, st80, st81, st82, st83, st84, st85, st86, st87, st88, st89, st90, st91, R0, R_line, h2, h2i, c1, c2, e1, e2, h45, h93, inR]))) <;> (try (first | omega | exact hz))
          · have hz := hst (j + 1) (by rw [if_neg (fun q => h45 q.2.1)])
            (repeat' (first | with_reducible assumption | (refine And.intro ?_ ?_) | (with_reducible intro _) | (simp [wp_eq, wpE, mk_X11_setEnd, mg, mc_X11_setEnd, lget, lset, popN, cats, rcv, entL, isArr, kC_s, kC_n, st1, st2, st3, st4, st5, st6, st7, st8, st9, st10, st11, st12, st13, st14, st15, st16, st17, st18, st19, st20, st21, st22, st23, st24, st25, st26, st27, st28, st29, st30, st31, st32, st33, st34, st35, st36, st37, st38, st39, st40, st41, st42, st43, st44, st45, st46, st47, st48, st49, st50, st51, st52, st53, st54, st55, st56, st57, st58, st59, st60, st61, st62, st63, st64, st65, st66, st67, st68, st69, st70, st71, st72, st73, st74, st75, st76, st77, st78, st79, st80, st81, st82, st83, st84, st85, st86, st87, st88, st89, st90, st91, R0, R_line, h2, h2i, c1, e1, h45, inR]))) <;> (try (first | omega | exact hz))
        · have h2i : ¬ (j : Int) + 2 < (to : Int) := by omega
          have hz := hst (j + 1) (by rw [if_neg (fun q => h2 q.1)])
          (repeat' (first | with_reducible assumption | (refine And.intro ?_ ?_) | (with_reducible intro _) | (simp [wp_eq, wpE, mk_X11_setEnd, mg, mc_X11_setEnd, lget, lset, popN, cats, rcv, entL, isArr, kC_s, kC_n, st1, st2, st3, st4, st5, st6, st7, st8, st9, st10, st11, st12, st13, st14, st15, st16, st17, st18, st19, st20, st21, st22, st23, st24, st25, st26, st27, st28, st29, st30, st31, st32, st33, st34, st35, st36, st37, st38, st39, st40, st41, st42, st43, st44, st45, st46, st47, st48, st49, st50, st51, st52, st53, st54, st55, st56, st57, st58, st59, st60, st61, st62, st63, st64, st65, st66, st67, st68, st69, st70, st71, st72, st73, st74, st75, st76, st77, st78, st79, st80, st81, st82, st83, st84, st85, st86, st87, st88, st89, st90, st91, R0, R_line, h2, h2i, inR]))) <;> (try (first | omega | exact hz))
      cases b with
      | true =>
        have hz := fun x4 => fin x4 (by simp)
        simp only [b01, if_true]
        (repeat' (first | with_reducible assumption | (refine And.intro ?_ ?_) | (with_reducible intro _) | (simp [wp_ne 52, wpE, mk_X11_setEnd, mg, mc_X11_setEnd, lget, lset, popN, cats, rcv, entL, isArr, kC_s, kC_n, st1, st2, st3, st4, st5, st6, st7, st8, st9, st10, st11, st12, st13, st14, st15, st16, st17, st18, st19, st20, st21, st22, st23, st24, st25, st26, st27, st28, st29, st30, st31, st32, st33, st34, st35, st36, st37, st38, st39, st40, st41, st42, st43, st44, st45, st46, st47, st48, st49, st50, st51, st52, st53, st54, st55, st56, st57, st58, st59, st60, st61, st62, st63, st64, st65, st66, st67, st68, st69, st70, st71, st72, st73, st74, st75, st76, st77, st78, st79, st80, st81, st82, st83, st84, st85, st86, st87, st88, st89, st90, st91, R0, R_line, hjt, show ¬ (to : Int) ≤ (j : Int) by omega]))) <;> (try (first | omega | exact hz))
        all_goals first | omega | exact hz _
      | false =>
        by_cases h93 : lf L j = 93
        · have hz := hC
          rw [if_neg (by simp), f93_s, if_pos hjt, if_pos h93] at hz
          unfold se1 at hz
          rw [if_neg (by omega)] at hz
          simp only [b01, Bool.false_eq_true, if_false]
          (repeat' (first | with_reducible assumption | (refine And.intro ?_ ?_) | (with_reducible intro _) | (simp [wp_ne 52, wpE, mk_X11_setEnd, mg, mc_X11_setEnd, lget, lset, popN, cats, rcv, entL, isArr, kC_s, kC_n, st1, st2, st3, st4, st5, st6, st7, st8, st9, st10, st11, st12, st13, st14, st15, st16, st17, st18, st19, st20, st21, st22, st23, st24, st25, st26, st27, st28, st29, st30, st31, st32, st33, st34, st35, st36, st37, st38, st39, st40, st41, st42, st43, st44, st45, st46, st47, st48, st49, st50, st51, st52, st53, st54, st55, st56, st57, st58, st59, st60, st61, st62, st63, st64, st65, st66, st67, st68, st69, st70, st71, st72, st73, st74, st75, st76, st77, st78, st79, st80, st81, st82, st83, st84, st85, st86, st87, st88, st89, st90, st91, R0, R_line, hjt, cj, h93, inR, show ¬ (to : Int) ≤ (j : Int) by omega]))) <;> (try (first | omega | exact hz))
        · have hz := fun x4 => fin x4 (fun q => h93 q.2)
          simp only [b01, Bool.false_eq_true, if_false]
          (repeat' (first | with_reducible assumption | (refine And.intro ?_ ?_) | (with_reducible intro _) | (simp [wp_ne 52, wpE, mk_X11_setEnd, mg, mc_X11_setEnd, lget, lset, popN, cats, rcv, entL, isArr, kC_s, kC_n, st1, st2, st3, st4, st5, st6, st7, st8, st9, st10, st11, st12, st13, st14, st15, st16, st17, st18, st19, st20, st21, st22, st23, st24, st25, st26, st27, st28, st29, st30, st31, st32, st33, st34, st35, st36, st37, st38, st39, st40, st41, st42, st43, st44, st45, st46, st47, st48, st49, st50, st51, st52, st53, st54, st55, st56, st57, st58, st59, st60, st61, st62, st63, st64, st65, st66, st67, st68, st69, st70, st71, st72, st73, st74, st75, st76, st77, st78, st79, st80, st81, st82, st83, st84, st85, st86, st87, st88, st89, st90, st91, R0, R_line, hjt, cj, h93, show ¬ (to : Int) ≤ (j : Int) by omega]))) <;> (try (first | omega | exact hz))
          all_goals first | omega | exact hz _
    · have hz := hC
      have h0 : f93 (lf L) to (to + 1) (if b = true then j + 1 else j) = -1 := by rw [f93_s, if_neg (by split <;> omega)]
      rw [h0] at hz
      simp [se1] at hz
      (repeat' (first | with_reducible assumption | (refine And.intro ?_ ?_) | (with_reducible intro _) | (simp [wp_eq, wpE, mk_X11_setEnd, mg, mc_X11_setEnd, lget, lset, popN, cats, rcv, entL, isArr, kC_s, kC_n, st1, st2, st3, st4, st5, st6, st7, st8, st9, st10, st11, st12, st13, st14, st15, st16, st17, st18, st19, st20, st21, st22, st23, st24, st25, st26, st27, st28, st29, st30, st31, st32, st33, st34, st35, st36, st37, st38, st39, st40, st41, st42, st43, st44, st45, st46, st47, st48, st49, st50, st51, st52, st53, st54, st55, st56, st57, st58, st59, st60, st61, st62, st63, st64, st65, st66, st67, st68, st69, st70, st71, st72, st73, st74, st75, st76, st77, st78, st79, st80, st81, st82, st83, st84, st85, st86, st87, st88, st89, st90, st91, R0, R_line, show (to : Int) ≤ (j : Int) by omega]))) <;> (try (first | omega | exact hz))
theorem r_setEnd {G : Nat → Nat} {d r i to : Nat} {h : mH} {C : mQ} {X : mX} {L : List Int} (HR : RN r h) (HP : RP r h L) (hl : L.length ≤ 100) (hto : to ≤ L.length) (hi : i < to) (hC : C (some (.inl (se1 (clsg (lf L) to i)))) h) :
    callG (wp G) d 131 0 0 5 [.inr (.inl (some r)), .inl (i : Int), .inl (to : Int)] h C X := by
  have R0 := HR.1; have R_line := rn_line HR
  unfold clsg insd at hC
  have e1 : ((i : Int) + 1).toNat = i + 1 := by omega
  refine ⟨C, fun _ _ => False, ?_, fun _ _ q => q, fun _ _ q => q.elim⟩
  by_cases h1 : i + 1 < to
  · have c1 := HP.2 (i + 1) (by omega) (by omega)
    have h1i : (i : Int) + 1 < (to : Int) := by omega
    by_cases h33 : lf L (i + 1) = 33
    · rw [if_pos ⟨h1, h33⟩] at hC
      have hz := fun x1 => set_loop (G := G) (d := d - 1) (C := C) (X := fun _ _ => False) (x1 := x1) HR HP hl hto (to + 4) (i + 2) true (by omega) (by omega) (by simpa using hC)
      simp only [b01, if_true] at hz
      (repeat' (first | with_reducible assumption | (refine And.intro ?_ ?_) | (with_reducible intro _) | (simp [wp_eq, wpE, mk_X11_setEnd, mg, mc_X11_setEnd, lget, lset, popN, cats, rcv, entL, isArr, kC_s, kC_n, st1, st2, st3, st4, st5, st6, st7, st8, st9, st10, st11, st12, st13, st14, st15, st16, st17, st18, st19, st20, st21, st22, st23, st24, st25, st26, st27, st28, st29, st30, st31, st32, st33, st34, st35, st36, st37, st38, st39, st40, st41, st42, st43, st44, st45, st46, st47, st48, st49, st50, st51, st52, st53, st54, st55, st56, st57, st58, st59, st60, st61, st62, st63, st64, st65, st66, st67, st68, st69, st70, st71, st72, st73, st74, st75, st76, st77, st78, st79, st80, st81, st82, st83, st84, st85, st86, st87, st88, st89, st90, st91, R0, R_line, c1, h1, h1i, h33, e1, inR]))) <;> (try (first | omega | exact hz))
      all_goals exact hz _
    · rw [if_neg (fun q => h33 q.2)] at hC
      have hz := fun x1 => set_loop (G := G) (d := d - 1) (C := C) (X := fun _ _ => False) (x1 := x1) HR HP hl hto (to + 4) (i + 1) true (by omega) (by omega) (by simpa using hC)
      simp only [b01, if_true] at hz
      (repeat' (first | with_reducible assumption | (refine And.intro ?_ ?_) | (with_reducible intro _) | (simp [wp_eq, wpE, mk_X11_setEnd, mg, mc_X11_setEnd, lget, lset, popN, cats, rcv, entL, isArr, kC_s, kC_n, st1, st2, st3, st4, st5, st6, st7, st8, st9, st10, st11, st12, st13, st14, st15, st16, st17, st18, st19, st20, st21, st22, st23, st24, st25, st26, st27, st28, st29, st30, st31, st32, st33, st34, st35, st36, st37, st38, st39, st40, st41, st42, st43, st44, st45, st46, st47, st48, st49, st50, st51, st52, st53, st54, st55, st56, st57, st58, st59, st60, st61, st62, st63, st64, st65, st66, st67, st68, st69, st70, st71, st72, st73, st74, st75, st76, st77, st78, st79, st80, st81, st82, st83, st84, st85, st86, st87, st88, st89, st90, st91, R0, R_line, c1, h1, h1i, h33, e1, inR]))) <;> (try (first | omega | exact hz))
      all_goals exact hz _
  · rw [if_neg (fun q => h1 q.1)] at hC
    have h1i : ¬ (i : Int) + 1 < (to : Int) := by omega
    have hz := fun x1 => set_loop (G := G) (d := d - 1) (C := C) (X := fun _ _ => False) (x1 := x1) HR HP hl hto (to + 4) (i + 1) true (by omega) (by omega) (by simpa using hC)
    simp only [b01, if_true] at hz
    (repeat' (first | with_reducible assumption | (refine And.intro ?_ ?_) | (with_reducible intro _) | (simp [wp_eq, wpE, mk_X11_setEnd, mg, mc_X11_setEnd, lget, lset, popN, cats, rcv, entL, isArr, kC_s, kC_n, st1, st2, st3, st4, st5, st6, st7, st8, st9, st10, st11, st12, st13, st14, st15, st16, st17, st18, st19, st20, st21, st22, st23, st24, st25, st26, st27, st28, st29, st30, st31, st32, st33, st34, st35, st36, st37, st38, st39, st40, st41, st42, st43, st44, st45, st46, st47, st48, st49, st50, st51, st52, st53, st54, st55, st56, st57, st58, st59, st60, st61, st62, st63, st64, st65, st66, st67, st68, st69, st70, st71, st72, st73, st74, st75, st76, st77, st78, st79, st80, st81, st82, st83, st84, st85, st86, st87, st88, st89, st90, st91, R0, R_line, h1, h1i, e1, inR]))) <;> (try (first | omega | exact hz))
    all_goals exact hz _
theorem in_loop {G : Nat → Nat} {d r cl i0 : Nat} {h : mH} {C : mQ} {X : mX} {L : List Int} {c : Int} {but : Bool} {x1 : Option mV} (HR : RN r h) (HP : RP r h L) (hl : L.length ≤ 100) (hcl : cl < L.length) (h93 : lf L cl = 93) (hno : ∀ q, i0 + 1 ≤ q → q < cl → ¬ lf L q = 93) : ∀ (m j : Nat) (b : Bool), cl < m + j → j ≤ cl + 3 → i0 ≤ j → C (some (.inl (b01 (xor (b || inS (lf L) cl c m j) but)))) h →
    wp G d 132 100043 [some (.inr (.inl (some r))), x1, some (.inl ((cl : Int) + 1)), some (.inl c), some (.inl (j : Int)), some (.inl (b01 but)), some (.inl (b01 b))] [] h 0 0 C X := by
  have R0 := HR.1; have R_line := rn_line HR
  intro m
  induction m with
  | zero =>
    intro j b h1 h2 hi0 hC
    simp only [inS, Bool.or_false] at hC
    have hz := hC
    rw [wp_hd]
    cases b <;> cases but
    all_goals
      simp [b01] at hz ⊢
      (repeat' (first | with_reducible assumption | (refine And.intro ?_ ?_) | (with_reducible intro _) | (simp [wp_eq, wpE, mk_X11_inSet, mg, mc_X11_inSet, lget, lset, popN, cats, rcv, entL, isArr, kC_s, kC_n, st1, st2, st3, st4, st5, st6, st7, st8, st9, st10, st11, st12, st13, st14, st15, st16, st17, st18, st19, st20, st21, st22, st23, st24, st25, st26, st27, st28, st29, st30, st31, st32, st33, st34, st35, st36, st37, st38, st39, st40, st41, st42, st43, st44, st45, st46, st47, st48, st49, st50, st51, st52, st53, st54, st55, st56, st57, st58, st59, st60, st61, st62, st63, st64, st65, st66, st67, st68, st69, st70, st71, st72, st73, st74, st75, st76, st77, st78, st79, st80, st81, st82, st83, st84, st85, st86, st87, st88, st89, st90, st91, R0, R_line, inR, show ¬ (j : Int) < (cl : Int) by omega, show (cl : Int) ≤ (j : Int) by omega]))) <;> (try (first | omega | exact hz))
  | succ m ih =>
    intro j b h1 h2 hi0 hC
    simp only [inS] at hC
    have e0 : (cl : Int) + 1 - 1 = (cl : Int) := by omega
    have e1 : ((j : Int) + 1).toNat = j + 1 := by omega
    have e2 : ((j : Int) + 2).toNat = j + 2 := by omega
    rw [wp_hd]
    by_cases hjc : j < cl
    · rw [if_pos hjc] at hC
      have cj := HP.2 j (by omega) (by omega)
      have c1 := HP.2 (j + 1) (by omega) (by omega)
      by_cases hsp : j + 2 < cl ∧ lf L (j + 1) = 45
      · rw [if_pos hsp] at hC
        have c2 := HP.2 (j + 2) (by omega) (by omega)
        have n93 := hno (j + 2) (by omega) hsp.1
        have hz := ih (j + 3) (b || (decide (lf L j ≤ c) && decide (c ≤ lf L (j + 2)))) (by omega) (by omega) (by omega) (by
          by_cases hm : lf L j ≤ c ∧ c ≤ lf L (j + 2)
          · rw [if_pos hm] at hC; simp [hm.1, hm.2]; simpa using hC
          · rw [if_neg hm] at hC
            have : (decide (lf L j ≤ c) && decide (c ≤ lf L (j + 2))) = false := by
              cases hq : (decide (lf L j ≤ c) && decide (c ≤ lf L (j + 2))) with
              | false => rfl
              | true => simp at hq; exact absurd hq hm
            rw [this, Bool.or_false]; exact hC)
        have h2i : (j : Int) + 2 < (cl : Int) + 1 := by omega
        cases b with
        | true =>
          simp [b01] at hz ⊢
          (repeat' (first | with_reducible assumption | (refine And.intro ?_ ?_) | (with_reducible intro _) | (simp [wp_eq, wpE, mk_X11_inSet, mg, mc_X11_inSet, lget, lset, popN, cats, rcv, entL, isArr, kC_s, kC_n, st1, st2, st3, st4, st5, st6, st7, st8, st9, st10, st11, st12, st13, st14, st15, st16, st17, st18, st19, st20, st21, st22, st23, st24, st25, st26, st27, st28, st29, st30, st31, st32, st33, st34, st35, st36, st37, st38, st39, st40, st41, st42, st43, st44, st45, st46, st47, st48, st49, st50, st51, st52, st53, st54, st55, st56, st57, st58, st59, st60, st61, st62, st63, st64, st65, st66, st67, st68, st69, st70, st71, st72, st73, st74, st75, st76, st77, st78, st79, st80, st81, st82, st83, st84, st85, st86, st87, st88, st89, st90, st91, R0, R_line, e0, e1, e2, cj, c1, c2, hjc, hsp.2, n93, h2i, inR, show ¬ (cl : Int) ≤ (j : Int) by omega, show ¬ (cl : Int) + 1 ≤ (j : Int) + 2 by omega]))) <;> (try (first | omega | exact hz))
        | false =>
          by_cases m1 : lf L j ≤ c
          · by_cases m2 : c ≤ lf L (j + 2)
            · simp [b01, m1, m2] at hz ⊢
              (repeat' (first | with_reducible assumption | (refine And.intro ?_ ?_) | (with_reducible intro _) | (simp [wp_eq, wpE, mk_X11_inSet, mg, mc_X11_inSet, lget, lset, popN, cats, rcv, entL, isArr, kC_s, kC_n, st1, st2, st3, st4, st5, st6, st7, st8, st9, st10, st11, st12, st13, st14, st15, st16, st17, st18, st19, st20, st21, st22, st23, st24, st25, st26, st27, st28, st29, st30, st31, st32, st33, st34, st35, st36, st37, st38, st39, st40, st41, st42, st43, st44, st45, st46, st47, st48, st49, st50, st51, st52, st53, st54, st55, st56, st57, st58, st59, st60, st61, st62, st63, st64, st65, st66, st67, st68, st69, st70, st71, st72, st73, st74, st75, st76, st77, st78, st79, st80, st81, st82, st83, st84, st85, st86, st87, st88, st89, st90, st91, R0, R_line, e0, e1, e2, cj, c1, c2, hjc, hsp.2, n93, h2i, m1, m2, inR, show ¬ c < lf L j by omega, show ¬ lf L (j + 2) < c by omega, show ¬ (cl : Int) ≤ (j : Int) by omega, show ¬ (cl : Int) + 1 ≤ (j : Int) + 2 by omega]))) <;> (try (first | omega | exact hz))
            · simp [b01, m2] at hz ⊢
              (repeat' (first | with_reducible assumption | (refine And.intro ?_ ?_) | (with_reducible intro _) | (simp [wp_eq, wpE, mk_X11_inSet, mg, mc_X11_inSet, lget, lset, popN, cats, rcv, entL, isArr, kC_s, kC_n, st1, st2, st3, st4, st5, st6, st7, st8, st9, st10, st11, st12, st13, st14, st15, st16, st17, st18, st19, st20, st21, st22, st23, st24, st25, st26, st27, st28, st29, st30, st31, st32, st33, st34, st35, st36, st37, st38, st39, st40, st41, st42, st43, st44, st45, st46, st47, st48, st49, st50, st51, st52, st53, st54, st55, st56, st57, st58, st59, st60, st61, st62, st63, st64, st65, st66, st67, st68, st69, st70, st71, st72, st73, st74, st75, st76, st77, st78, st79, st80, st81, st82, st83, st84, st85, st86, st87, st88, st89, st90, st91, R0, R_line, e0, e1, e2, cj, c1, c2, hjc, hsp.2, n93, h2i, m1, inR, show ¬ c < lf L j by omega, show lf L (j + 2) < c by omega, show ¬ (cl : Int) ≤ (j : Int) by omega, show ¬ (cl : Int) + 1 ≤ (j : Int) + 2 by omega]))) <;> (try (first | omega | exact hz))
          · simp [b01, m1] at hz ⊢
            (repeat' (first | with_reducible assumption | (refine And.intro ?_ ?_) | (with_reducible intro _) | (simp [wp_eq, wpE, mk_X11_inSet, mg, mc_X11_inSet, lget, lset, popN, cats, rcv, entL, isArr, kC_s, kC_n, st1, st2, st3, st4, st5, st6, st7, st8, st9, st10, st11, st12, st13, st14, st15, st16, st17, st18, st19, st20, st21, st22, st23, st24, st25, st26, st27, st28, st29, st30, st31, st32, st33, st34, st35, st36, st37, st38, st39, st40, st41, st42, st43, st44, st45, st46, st47, st48, st49, st50, st51, st52, st53, st54, st55, st56, st57, st58, st59, st60, st61, st62, st63, st64, st65, st66, st67, st68, st69, st70, st71, st72, st73, st74, st75, st76, st77, st78, st79, st80, st81, st82, st83, st84, st85, st86, st87, st88, st89, st90, st91, R0, R_line, e0, e1, e2, cj, c1, c2, hjc, hsp.2, n93, h2i, inR, show c < lf L j by omega, show ¬ (cl : Int) ≤ (j : Int) by omega, show ¬ (cl : Int) + 1 ≤ (j : Int) + 2 by omega]))) <;> (try (first | omega | exact hz))
      · rw [if_neg hsp] at hC
        have hz1 := ih (j + 1) (b || (c == lf L j)) (by omega) (by omega) (by omega) (by
          by_cases hm : lf L j ≤ c ∧ c ≤ lf L j
          · rw [if_pos hm] at hC
            have : c = lf L j := by omega
            simp [this]; simpa using hC
          · rw [if_neg hm] at hC
            have : ¬ c = lf L j := by omega
            rw [show (c == lf L j) = false from beq_eq_false_iff_ne.mpr this, Bool.or_false]; exact hC)
        have fin : wp G d 132 132 [some (.inr (.inl (some r))), x1, some (.inl ((cl : Int) + 1)), some (.inl c), some (.inl (j : Int)), some (.inl (b01 but)), some (.inl (b01 b))] [] h 0 0 C X := by
          have hz := hz1
          cases b with
          | true =>
            simp [b01] at hz ⊢
            (repeat' (first | with_reducible assumption | (refine And.intro ?_ ?_) | (with_reducible intro _) | (simp [wp_eq, wpE, mk_X11_inSet, mg, mc_X11_inSet, lget, lset, popN, cats, rcv, entL, isArr, kC_s, kC_n, st1, st2, st3, st4, st5, st6, st7, st8, st9, st10, st11, st12, st13, st14, st15, st16, st17, st18, st19, st20, st21, st22, st23, st24, st25, st26, st27, st28, st29, st30, st31, st32, st33, st34, st35, st36, st37, st38, st39, st40, st41, st42, st43, st44, st45, st46, st47, st48, st49, st50, st51, st52, st53, st54, st55, st56, st57, st58, st59, st60, st61, st62, st63, st64, st65, st66, st67, st68, st69, st70, st71, st72, st73, st74, st75, st76, st77, st78, st79, st80, st81, st82, st83, st84, st85, st86, st87, st88, st89, st90, st91, R0, R_line, cj, inR]))) <;> (try (first | omega | exact hz))
          | false =>
            by_cases hm : c = lf L j
            · simp [b01, hm] at hz ⊢
              (repeat' (first | with_reducible assumption | (refine And.intro ?_ ?_) | (with_reducible intro _) | (simp [wp_eq, wpE, mk_X11_inSet, mg, mc_X11_inSet, lget, lset, popN, cats, rcv, entL, isArr, kC_s, kC_n, st1, st2, st3, st4, st5, st6, st7, st8, st9, st10, st11, st12, st13, st14, st15, st16, st17, st18, st19, st20, st21, st22, st23, st24, st25, st26, st27, st28, st29, st30, st31, st32, st33, st34, st35, st36, st37, st38, st39, st40, st41, st42, st43, st44, st45, st46, st47, st48, st49, st50, st51, st52, st53, st54, st55, st56, st57, st58, st59, st60, st61, st62, st63, st64, st65, st66, st67, st68, st69, st70, st71, st72, st73, st74, st75, st76, st77, st78, st79, st80, st81, st82, st83, st84, st85, st86, st87, st88, st89, st90, st91, R0, R_line, cj, hm, inR]))) <;> (try (first | omega | exact hz))
            · simp [b01, hm] at hz ⊢
              (repeat' (first | with_reducible assumption | (refine And.intro ?_ ?_) | (with_reducible intro _) | (simp [wp_eq, wpE, mk_X11_inSet, mg, mc_X11_inSet, lget, lset, popN, cats, rcv, entL, isArr, kC_s, kC_n, st1, st2, st3, st4, st5, st6, st7, st8, st9, st10, st11, st12, st13, st14, st15, st16, st17, st18, st19, st20, st21, st22, st23, st24, st25, st26, st27, st28, st29, st30, st31, st32, st33, st34, st35, st36, st37, st38, st39, st40, st41, st42, st43, st44, st45, st46, st47, st48, st49, st50, st51, st52, st53, st54, st55, st56, st57, st58, st59, st60, st61, st62, st63, st64, st65, st66, st67, st68, st69, st70, st71, st72, st73, st74, st75, st76, st77, st78, st79, st80, st81, st82, st83, st84, st85, st86, st87, st88, st89, st90, st91, R0, R_line, cj, hm, inR]))) <;> (try (first | omega | exact hz))
        have hz := fin
        by_cases h45 : lf L (j + 1) = 45
        · by_cases h2 : j + 2 < cl + 1
          · have e3 : j + 2 = cl := by
              by_cases q : j + 2 < cl
              · exact absurd ⟨q, h45⟩ hsp
              · omega
            have c2 := HP.2 (j + 2) (by omega) (by omega)
            have h93' : lf L (j + 2) = 93 := by rw [e3]; exact h93
            have h2i : (j : Int) + 2 < (cl : Int) + 1 := by omega
            (repeat' (first | with_reducible assumption | (refine And.intro ?_ ?_) | (with_reducible intro _) | (simp [wp_ne 132, wpE, mk_X11_inSet, mg, mc_X11_inSet, lget, lset, popN, cats, rcv, entL, isArr, kC_s, kC_n, st1, st2, st3, st4, st5, st6, st7, st8, st9, st10, st11, st12, st13, st14, st15, st16, st17, st18, st19, st20, st21, st22, st23, st24, st25, st26, st27, st28, st29, st30, st31, st32, st33, st34, st35, st36, st37, st38, st39, st40, st41, st42, st43, st44, st45, st46, st47, st48, st49, st50, st51, st52, st53, st54, st55, st56, st57, st58, st59, st60, st61, st62, st63, st64, st65, st66, st67, st68, st69, st70, st71, st72, st73, st74, st75, st76, st77, st78, st79, st80, st81, st82, st83, st84, st85, st86, st87, st88, st89, st90, st91, R0, R_line, e0, e1, e2, cj, c1, c2, hjc, h45, h93', h2i, inR, show ¬ (cl : Int) ≤ (j : Int) by omega, show ¬ (cl : Int) + 1 ≤ (j : Int) + 2 by omega]))) <;> (try (first | omega | exact hz))
          · (repeat' (first | with_reducible assumption | (refine And.intro ?_ ?_) | (with_reducible intro _) | (simp [wp_ne 132, wpE, mk_X11_inSet, mg, mc_X11_inSet, lget, lset, popN, cats, rcv, entL, isArr, kC_s, kC_n, st1, st2, st3, st4, st5, st6, st7, st8, st9, st10, st11, st12, st13, st14, st15, st16, st17, st18, st19, st20, st21, st22, st23, st24, st25, st26, st27, st28, st29, st30, st31, st32, st33, st34, st35, st36, st37, st38, st39, st40, st41, st42, st43, st44, st45, st46, st47, st48, st49, st50, st51, st52, st53, st54, st55, st56, st57, st58, st59, st60, st61, st62, st63, st64, st65, st66, st67, st68, st69, st70, st71, st72, st73, st74, st75, st76, st77, st78, st79, st80, st81, st82, st83, st84, st85, st86, st87, st88, st89, st90, st91, R0, R_line, e0, e1, e2, cj, c1, hjc, h45, inR, show ¬ (cl : Int) ≤ (j : Int) by omega, show (cl : Int) + 1 ≤ (j : Int) + 2 by omega]))) <;> (try (first | omega | exact hz))
        · by_cases h2 : j + 2 < cl + 1
          · have h2i : (j : Int) + 2 < (cl : Int) + 1 := by omega
            (repeat' (first | with_reducible assumption | (refine And.intro ?_ ?_) | (with_reducible intro _) | (simp [wp_ne 132, wpE, mk_X11_inSet, mg, mc_X11_inSet, lget, lset, popN, cats, rcv, entL, isArr, kC_s, kC_n, st1, st2, st3, st4, st5, st6, st7, st8, st9, st10, st11, st12, st13, st14, st15, st16, st17, st18, st19, st20, st21, st22, st23, st24, st25, st26, st27, st28, st29, st30, st31, st32, st33, st34, st35, st36, st37, st38, st39, st40, st41, st42, st43, st44, st45, st46, st47, st48, st49, st50, st51, st52, st53, st54, st55, st56, st57, st58, st59, st60, st61, st62, st63, st64, st65, st66, st67, st68, st69, st70, st71, st72, st73, st74, st75, st76, st77, st78, st79, st80, st81, st82, st83, st84, st85, st86, st87, st88, st89, st90, st91, R0, R_line, e0, e1, e2, cj, c1, hjc, h45, h2i, inR, show ¬ (cl : Int) ≤ (j : Int) by omega, show ¬ (cl : Int) + 1 ≤ (j : Int) + 2 by omega]))) <;> (try (first | omega | exact hz))
          · (repeat' (first | with_reducible assumption | (refine And.intro ?_ ?_) | (with_reducible intro _) | (simp [wp_ne 132, wpE, mk_X11_inSet, mg, mc_X11_inSet, lget, lset, popN, cats, rcv, entL, isArr, kC_s, kC_n, st1, st2, st3, st4, st5, st6, st7, st8, st9, st10, st11, st12, st13, st14, st15, st16, st17, st18, st19, st20, st21, st22, st23, st24, st25, st26, st27, st28, st29, st30, st31, st32, st33, st34, st35, st36, st37, st38, st39, st40, st41, st42, st43, st44, st45, st46, st47, st48, st49, st50, st51, st52, st53, st54, st55, st56, st57, st58, st59, st60, st61, st62, st63, st64, st65, st66, st67, st68, st69, st70, st71, st72, st73, st74, st75, st76, st77, st78, st79, st80, st81, st82, st83, st84, st85, st86, st87, st88, st89, st90, st91, R0, R_line, e0, e1, e2, cj, c1, hjc, h45, inR, show ¬ (cl : Int) ≤ (j : Int) by omega, show (cl : Int) + 1 ≤ (j : Int) + 2 by omega]))) <;> (try (first | omega | exact hz))
    · rw [if_neg hjc] at hC
      simp only [Bool.or_false] at hC
      have hz := hC
      cases b <;> cases but
      all_goals
        simp [b01] at hz ⊢
        (repeat' (first | with_reducible assumption | (refine And.intro ?_ ?_) | (with_reducible intro _) | (simp [wp_eq, wpE, mk_X11_inSet, mg, mc_X11_inSet, lget, lset, popN, cats, rcv, entL, isArr, kC_s, kC_n, st1, st2, st3, st4, st5, st6, st7, st8, st9, st10, st11, st12, st13, st14, st15, st16, st17, st18, st19, st20, st21, st22, st23, st24, st25, st26, st27, st28, st29, st30, st31, st32, st33, st34, st35, st36, st37, st38, st39, st40, st41, st42, st43, st44, st45, st46, st47, st48, st49, st50, st51, st52, st53, st54, st55, st56, st57, st58, st59, st60, st61, st62, st63, st64, st65, st66, st67, st68, st69, st70, st71, st72, st73, st74, st75, st76, st77, st78, st79, st80, st81, st82, st83, st84, st85, st86, st87, st88, st89, st90, st91, R0, R_line, e0, inR, show (cl : Int) ≤ (j : Int) by omega]))) <;> (try (first | omega | exact hz))
theorem r_inSet {G : Nat → Nat} {d r i cl to : Nat} {h : mH} {C : mQ} {X : mX} {L : List Int} {c : Int} (HR : RN r h) (HP : RP r h L) (hl : L.length ≤ 100) (hto : to ≤ L.length) (hcl : clsg (lf L) to i = (cl : Int)) (hC : C (some (.inl (b01 (isn (lf L) i cl c)))) h) :
    callG (wp G) d 132 0 0 7 [.inr (.inl (some r)), .inl (i : Int), .inl ((cl : Int) + 1), .inl c] h C X := by
  have R0 := HR.1; have R_line := rn_line HR
  rcases clsg_rng (f := lf L) (to := to) (o := i) with q | ⟨q, e, q1, q2, q3, q4, q5⟩
  · rw [hcl] at q; omega
  · have hq : q = cl := by rw [hcl] at e; omega
    subst hq
    have c1 := HP.2 (i + 1) (by omega) (by omega)
    have e1 : ((i : Int) + 1).toNat = i + 1 := by omega
    unfold isn at hC
    refine ⟨C, fun _ _ => False, ?_, fun _ _ q => q, fun _ _ q => q.elim⟩
    by_cases h33 : lf L (i + 1) = 33
    · have hb : isBut (lf L) i q = true := by simp [isBut, h33]; omega
      rw [hb, if_pos rfl] at hC
      have hin : insd (lf L) to i = i + 2 := by unfold insd; rw [if_pos ⟨by omega, h33⟩]
      rw [hin] at q5
      have hz := fun x1 => in_loop (G := G) (d := d - 1) (C := C) (X := fun _ _ => False) (x1 := x1) (but := true) HR HP hl (by omega) q4 q5 (q + 1) (i + 2) false (by omega) (by omega) (by omega) (by simpa using hC)
      simp [b01] at hz
      (repeat' (first | with_reducible assumption | (refine And.intro ?_ ?_) | (with_reducible intro _) | (simp [wp_eq, wpE, mk_X11_inSet, mg, mc_X11_inSet, lget, lset, popN, cats, rcv, entL, isArr, kC_s, kC_n, st1, st2, st3, st4, st5, st6, st7, st8, st9, st10, st11, st12, st13, st14, st15, st16, st17, st18, st19, st20, st21, st22, st23, st24, st25, st26, st27, st28, st29, st30, st31, st32, st33, st34, st35, st36, st37, st38, st39, st40, st41, st42, st43, st44, st45, st46, st47, st48, st49, st50, st51, st52, st53, st54, st55, st56, st57, st58, st59, st60, st61, st62, st63, st64, st65, st66, st67, st68, st69, st70, st71, st72, st73, st74, st75, st76, st77, st78, st79, st80, st81, st82, st83, st84, st85, st86, st87, st88, st89, st90, st91, R0, R_line, c1, e1, h33, inR]))) <;> (try (first | omega | exact hz))
      all_goals exact hz _
    · have hb : isBut (lf L) i q = false := by simp [isBut, h33]
      rw [hb, if_neg (by simp)] at hC
      have hin : insd (lf L) to i = i + 1 := by unfold insd; rw [if_neg (fun z => h33 z.2)]
      rw [hin] at q5
      have hz := fun x1 => in_loop (G := G) (d := d - 1) (C := C) (X := fun _ _ => False) (x1 := x1) (but := false) HR HP hl (by omega) q4 q5 (q + 1) (i + 1) false (by omega) (by omega) (by omega) (by simpa using hC)
      simp [b01] at hz
      (repeat' (first | with_reducible assumption | (refine And.intro ?_ ?_) | (with_reducible intro _) | (simp [wp_eq, wpE, mk_X11_inSet, mg, mc_X11_inSet, lget, lset, popN, cats, rcv, entL, isArr, kC_s, kC_n, st1, st2, st3, st4, st5, st6, st7, st8, st9, st10, st11, st12, st13, st14, st15, st16, st17, st18, st19, st20, st21, st22, st23, st24, st25, st26, st27, st28, st29, st30, st31, st32, st33, st34, st35, st36, st37, st38, st39, st40, st41, st42, st43, st44, st45, st46, st47, st48, st49, st50, st51, st52, st53, st54, st55, st56, st57, st58, st59, st60, st61, st62, st63, st64, st65, st66, st67, st68, st69, st70, st71, st72, st73, st74, st75, st76, st77, st78, st79, st80, st81, st82, st83, st84, st85, st86, st87, st88, st89, st90, st91, R0, R_line, c1, e1, h33, inR]))) <;> (try (first | omega | exact hz))
      all_goals exact hz _
