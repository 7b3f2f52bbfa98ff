/-! numbers and words that may follow -/
theorem rnum_loop {G : Nat → Nat} {d r k : Nat} {h : mH} {L : List Int} {C : mQ} {X : mX} {x2 : Option mV} (HR : RN r h) (hl : L.length ≤ 100) (HP : RP r h L) (H : RW r h L) (hk : k < (wds L).length) : ∀ (m i : Nat) (b : Bool), i + m = (wd L k).length → C (some (.inl (b01 (b && ((wd L k).drop i).all dig)))) h →
    wp G d 125 100071 [some (.inr (.inl (some r))), some (.inl (k : Int)), x2, some (.inl (b01 b)), some (.inl ((wS L k : Int) + (i : Int)))] [] h 0 0 C X := by
  have R0 := HR.1; have R_line := rn_line HR; have R_begins := rn_begins HR; have R_ends := rn_ends HR
  have h1 := (H.2 k hk).1
  have h2 := (H.2 k hk).2
  have h3 := wS_le L k
  have h4 := wd_len L k
  have h5 := wds_len hl
  intro m
  induction m with
  | zero =>
    intro i b hi hC
    rw [List.drop_of_length_le (by omega)] at hC
    simp at hC
    have e1 : (wS L k : Int) + (i : Int) = (wE L k : Int) := by omega
    have hz := hC
    rw [wp_hd, e1]
    cases b <;> simp [b01] at hz ⊢
    all_goals
      (repeat' (first | with_reducible assumption | (refine And.intro ?_ ?_) | (with_reducible intro _) | (simp [wp_eq, wpE, mk_X11_isNumber, mg, mc_X11_isNumber, lget, lset, popN, cats, rcv, entL, isArr, kC_s, kC_n, st1, st2, st3, st4, st5, st6, st7, st8, st9, st10, st11, st12, st13, st14, st15, st16, st17, st18, st19, st20, st21, st22, st23, st24, st25, st26, st27, st28, st29, st30, st31, st32, st33, st34, st35, st36, st37, st38, st39, st40, st41, st42, st43, st44, st45, st46, st47, st48, st49, st50, st51, st52, st53, st54, st55, st56, st57, st58, st59, st60, st61, st62, st63, st64, st65, st66, st67, st68, st69, st70, st71, st72, st73, st74, st75, st76, st77, st78, st79, st80, st81, st82, st83, st84, st85, st86, st87, st88, st89, st90, st91, R0, R_line, R_begins, R_ends, h1, h2]))) <;> (try (first | omega | exact hz))
  | succ m ih =>
    intro i b hi hC
    have hc : (wd L k).drop i = lf (wd L k) i :: (wd L k).drop (i + 1) := by
      rw [List.drop_eq_getElem_cons (by omega)]
      simp [lf, List.getElem?_eq_getElem (show i < (wd L k).length by omega)]
    rw [hc, List.all_cons] at hC
    have ck := RP_wd (k := k) (i := i) hl HP (by omega)
    have e1 : ((wS L k : Int) + (i : Int)).toNat = wS L k + i := by omega
    have e2 : ¬ (wE L k : Int) ≤ (wS L k : Int) + (i : Int) := by omega
    have e3 : (wS L k : Int) + (i : Int) < 100 := by omega
    have e4 : (wS L k : Int) + (i : Int) + 1 = (wS L k : Int) + ((i + 1 : Nat) : Int) := by omega
    have e5 : (0 : Int) ≤ (wS L k : Int) + (i : Int) := by omega
    rw [wp_hd]
    generalize lf (wd L k) i = z at *
    cases b with
    | false =>
      simp at hC
      have hz := ih (i + 1) false (by omega) (by simpa using hC)
      simp [b01] at hz ⊢
      (repeat' (first | with_reducible assumption | (refine And.intro ?_ ?_) | (with_reducible intro _) | (simp [wp_eq, wpE, mk_X11_isNumber, mg, mc_X11_isNumber, lget, lset, popN, cats, rcv, entL, isArr, kC_s, kC_n, st1, st2, st3, st4, st5, st6, st7, st8, st9, st10, st11, st12, st13, st14, st15, st16, st17, st18, st19, st20, st21, st22, st23, st24, st25, st26, st27, st28, st29, st30, st31, st32, st33, st34, st35, st36, st37, st38, st39, st40, st41, st42, st43, st44, st45, st46, st47, st48, st49, st50, st51, st52, st53, st54, st55, st56, st57, st58, st59, st60, st61, st62, st63, st64, st65, st66, st67, st68, st69, st70, st71, st72, st73, st74, st75, st76, st77, st78, st79, st80, st81, st82, st83, st84, st85, st86, st87, st88, st89, st90, st91, R0, R_line, R_begins, R_ends, -Int.natCast_add, h1, h2, e1, e2, e3, e4, e5, ck, inR]))) <;> (try (first | omega | exact hz))
    | true =>
      by_cases hz1 : 48 ≤ z
      · by_cases hz2 : z ≤ 57
        · have hz := ih (i + 1) true (by omega) (by simpa [dig, hz1, hz2] using hC)
          simp [b01] at hz ⊢
          (repeat' (first | with_reducible assumption | (refine And.intro ?_ ?_) | (with_reducible intro _) | (simp [wp_eq, wpE, mk_X11_isNumber, mg, mc_X11_isNumber, lget, lset, popN, cats, rcv, entL, isArr, kC_s, kC_n, st1, st2, st3, st4, st5, st6, st7, st8, st9, st10, st11, st12, st13, st14, st15, st16, st17, st18, st19, st20, st21, st22, st23, st24, st25, st26, st27, st28, st29, st30, st31, st32, st33, st34, st35, st36, st37, st38, st39, st40, st41, st42, st43, st44, st45, st46, st47, st48, st49, st50, st51, st52, st53, st54, st55, st56, st57, st58, st59, st60, st61, st62, st63, st64, st65, st66, st67, st68, st69, st70, st71, st72, st73, st74, st75, st76, st77, st78, st79, st80, st81, st82, st83, st84, st85, st86, st87, st88, st89, st90, st91, R0, R_line, R_begins, R_ends, -Int.natCast_add, h1, h2, e1, e2, e3, e4, e5, ck, hz1, hz2, inR, show ¬ z < 48 by omega, show ¬ 57 < z by omega]))) <;> (try (first | omega | exact hz))
        · have hz := ih (i + 1) false (by omega) (by simpa [dig, hz2] using hC)
          simp [b01] at hz ⊢
          (repeat' (first | with_reducible assumption | (refine And.intro ?_ ?_) | (with_reducible intro _) | (simp [wp_eq, wpE, mk_X11_isNumber, mg, mc_X11_isNumber, lget, lset, popN, cats, rcv, entL, isArr, kC_s, kC_n, st1, st2, st3, st4, st5, st6, st7, st8, st9, st10, st11, st12, st13, st14, st15, st16, st17, st18, st19, st20, st21, st22, st23, st24, st25, st26, st27, st28, st29, st30, st31, st32, st33, st34, st35, st36, st37, st38, st39, st40, st41, st42, st43, st44, st45, st46, st47, st48, st49, st50, st51, st52, st53, st54, st55, st56, st57, st58, st59, st60, st61, st62, st63, st64, st65, st66, st67, st68, st69, st70, st71, st72, st73, st74, st75, st76, st77, st78, st79, st80, st81, st82, st83, st84, st85, st86, st87, st88, st89, st90, st91, R0, R_line, R_begins, R_ends, -Int.natCast_add, h1, h2, e1, e2, e3, e4, e5, ck, hz1, hz2, inR, show ¬ z < 48 by omega, show 57 < z by omega]))) <;> (try (first | omega | exact hz))
      · have hz := ih (i + 1) false (by omega) (by simpa [dig, hz1] using hC)
        simp [b01] at hz ⊢
        (repeat' (first | with_reducible assumption | (refine And.intro ?_ ?_) | (with_reducible intro _) | (simp [wp_eq, wpE, mk_X11_isNumber, mg, mc_X11_isNumber, lget, lset, popN, cats, rcv, entL, isArr, kC_s, kC_n, st1, st2, st3, st4, st5, st6, st7, st8, st9, st10, st11, st12, st13, st14, st15, st16, st17, st18, st19, st20, st21, st22, st23, st24, st25, st26, st27, st28, st29, st30, st31, st32, st33, st34, st35, st36, st37, st38, st39, st40, st41, st42, st43, st44, st45, st46, st47, st48, st49, st50, st51, st52, st53, st54, st55, st56, st57, st58, st59, st60, st61, st62, st63, st64, st65, st66, st67, st68, st69, st70, st71, st72, st73, st74, st75, st76, st77, st78, st79, st80, st81, st82, st83, st84, st85, st86, st87, st88, st89, st90, st91, R0, R_line, R_begins, R_ends, -Int.natCast_add, h1, h2, e1, e2, e3, e4, e5, ck, hz1, inR, show z < 48 by omega]))) <;> (try (first | omega | exact hz))
theorem r_isNumber {G : Nat → Nat} {d r k : Nat} {h : mH} {L : List Int} {C : mQ} {X : mX} (HR : RN r h) (hl : L.length ≤ 100) (HP : RP r h L) (H : RW r h L) (hk : k < (wds L).length) (hC : C (some (.inl (b01 (nbr (wd L k)).isSome))) h) :
    callG (wp G) d 125 0 0 5 [.inr (.inl (some r)), .inl (k : Int)] h C X := by
  have R0 := HR.1; have R_line := rn_line HR; have R_begins := rn_begins HR; have R_ends := rn_ends HR
  have h1 := (H.2 k hk).1
  have h2 := (H.2 k hk).2
  have h3 := wS_le L k
  have h4 := wd_len L k
  have h5 := wds_len hl
  have hw := wds_at hk
  have c0 := RP_wd (k := k) (i := 0) hl HP (by omega)
  simp only [Nat.add_zero] at c0
  have hnb : (nbr (wd L k)).isSome = (decide (1 ≤ ((wd L k).drop (if sgd (wd L k) then 1 else 0)).length ∧ ((wd L k).drop (if sgd (wd L k) then 1 else 0)).length ≤ 6) && ((wd L k).drop (if sgd (wd L k) then 1 else 0)).all dig) := by
    unfold nbr
    generalize (wd L k).drop (if sgd (wd L k) then 1 else 0) = y
    by_cases q1 : 1 ≤ y.length ∧ y.length ≤ 6
    · by_cases q2 : y.all dig = true
      · rw [if_pos ⟨q1.1, q1.2, q2⟩]; simp [q1, q2]
      · rw [if_neg (fun q => q2 q.2.2)]; simp [q1]; simpa using q2
    · rw [if_neg (fun q => q1 ⟨q.1, q.2.1⟩)]; simp [q1]
  rw [hnb] at hC
  refine ⟨C, fun _ _ => False, ?_, fun _ _ q => q, fun _ _ q => q.elim⟩
  have go : ∀ i, i ≤ (wd L k).length → i = (if sgd (wd L k) then 1 else 0) → wp G (d - 1) 125 36 [some (.inr (.inl (some r))), some (.inl (k : Int)), some (.inl (wS L k : Int)), none, none] [.inl ((wS L k : Int) + (i : Int))] h 0 0 C (fun _ _ => False) := by
    intro i hi he
    rw [← he] at hC
    have hz := fun x2 => rnum_loop (G := G) (d := d - 1) (C := C) (X := fun _ _ => False) (x2 := x2) HR hl HP H hk ((wd L k).length - i) i (decide (1 ≤ ((wd L k).drop i).length ∧ ((wd L k).drop i).length ≤ 6)) (by omega) hC
    have el : ((wd L k).drop i).length = (wd L k).length - i := by simp
    rw [el] at hz
    have e6 : (wE L k : Int) - ((wS L k : Int) + (i : Int)) = (((wd L k).length - i : Nat) : Int) := by omega
    generalize (wd L k).length - i = y at *
    by_cases q1 : 1 ≤ y
    · by_cases q2 : y ≤ 6
      · simp [q1, q2, b01] at hz
        (repeat' (first | with_reducible assumption | (refine And.intro ?_ ?_) | (with_reducible intro _) | (simp [wp_eq, wpE, mk_X11_isNumber, mg, mc_X11_isNumber, lget, lset, popN, cats, rcv, entL, isArr, kC_s, kC_n, st1, st2, st3, st4, st5, st6, st7, st8, st9, st10, st11, st12, st13, st14, st15, st16, st17, st18, st19, st20, st21, st22, st23, st24, st25, st26, st27, st28, st29, st30, st31, st32, st33, st34, st35, st36, st37, st38, st39, st40, st41, st42, st43, st44, st45, st46, st47, st48, st49, st50, st51, st52, st53, st54, st55, st56, st57, st58, st59, st60, st61, st62, st63, st64, st65, st66, st67, st68, st69, st70, st71, st72, st73, st74, st75, st76, st77, st78, st79, st80, st81, st82, st83, st84, st85, st86, st87, st88, st89, st90, st91, R0, R_line, R_begins, R_ends, h1, h2, e6, inR, show ¬ (y : Int) < 1 by omega, show ¬ 6 < (y : Int) by omega]))) <;> (try (first | omega | exact hz))
        all_goals first | omega | exact hz _
      · simp [q2, b01] at hz
        (repeat' (first | with_reducible assumption | (refine And.intro ?_ ?_) | (with_reducible intro _) | (simp [wp_eq, wpE, mk_X11_isNumber, mg, mc_X11_isNumber, lget, lset, popN, cats, rcv, entL, isArr, kC_s, kC_n, st1, st2, st3, st4, st5, st6, st7, st8, st9, st10, st11, st12, st13, st14, st15, st16, st17, st18, st19, st20, st21, st22, st23, st24, st25, st26, st27, st28, st29, st30, st31, st32, st33, st34, st35, st36, st37, st38, st39, st40, st41, st42, st43, st44, st45, st46, st47, st48, st49, st50, st51, st52, st53, st54, st55, st56, st57, st58, st59, st60, st61, st62, st63, st64, st65, st66, st67, st68, st69, st70, st71, st72, st73, st74, st75, st76, st77, st78, st79, st80, st81, st82, st83, st84, st85, st86, st87, st88, st89, st90, st91, R0, R_line, R_begins, R_ends, h1, h2, e6, inR, show ¬ (y : Int) < 1 by omega, show 6 < (y : Int) by omega]))) <;> (try (first | omega | exact hz))
        all_goals first | omega | exact hz _
    · simp [q1, b01] at hz
      (repeat' (first | with_reducible assumption | (refine And.intro ?_ ?_) | (with_reducible intro _) | (simp [wp_eq, wpE, mk_X11_isNumber, mg, mc_X11_isNumber, lget, lset, popN, cats, rcv, entL, isArr, kC_s, kC_n, st1, st2, st3, st4, st5, st6, st7, st8, st9, st10, st11, st12, st13, st14, st15, st16, st17, st18, st19, st20, st21, st22, st23, st24, st25, st26, st27, st28, st29, st30, st31, st32, st33, st34, st35, st36, st37, st38, st39, st40, st41, st42, st43, st44, st45, st46, st47, st48, st49, st50, st51, st52, st53, st54, st55, st56, st57, st58, st59, st60, st61, st62, st63, st64, st65, st66, st67, st68, st69, st70, st71, st72, st73, st74, st75, st76, st77, st78, st79, st80, st81, st82, st83, st84, st85, st86, st87, st88, st89, st90, st91, R0, R_line, R_begins, R_ends, h1, h2, e6, inR, show (y : Int) < 1 by omega]))) <;> (try (first | omega | exact hz))
      all_goals first | omega | exact hz _
  by_cases s1 : lf (wd L k) 0 = 43
  · have hz := go 1 (by omega) (by simp [sgd, s1])
    simp at hz
    (repeat' (first | with_reducible assumption | (refine And.intro ?_ ?_) | (with_reducible intro _) | (simp [wp_ne 36, wpE, mk_X11_isNumber, mg, mc_X11_isNumber, lget, lset, popN, cats, rcv, entL, isArr, kC_s, kC_n, st1, st2, st3, st4, st5, st6, st7, st8, st9, st10, st11, st12, st13, st14, st15, st16, st17, st18, st19, st20, st21, st22, st23, st24, st25, st26, st27, st28, st29, st30, st31, st32, st33, st34, st35, st36, st37, st38, st39, st40, st41, st42, st43, st44, st45, st46, st47, st48, st49, st50, st51, st52, st53, st54, st55, st56, st57, st58, st59, st60, st61, st62, st63, st64, st65, st66, st67, st68, st69, st70, st71, st72, st73, st74, st75, st76, st77, st78, st79, st80, st81, st82, st83, st84, st85, st86, st87, st88, st89, st90, st91, R0, R_line, R_begins, R_ends, h1, h2, c0, s1, inR]))) <;> (try (first | omega | exact hz))
  · by_cases s2 : lf (wd L k) 0 = 45
    · have hz := go 1 (by omega) (by simp [sgd, s2])
      simp at hz
      (repeat' (first | with_reducible assumption | (refine And.intro ?_ ?_) | (with_reducible intro _) | (simp [wp_ne 36, wpE, mk_X11_isNumber, mg, mc_X11_isNumber, lget, lset, popN, cats, rcv, entL, isArr, kC_s, kC_n, st1, st2, st3, st4, st5, st6, st7, st8, st9, st10, st11, st12, st13, st14, st15, st16, st17, st18, st19, st20, st21, st22, st23, st24, st25, st26, st27, st28, st29, st30, st31, st32, st33, st34, st35, st36, st37, st38, st39, st40, st41, st42, st43, st44, st45, st46, st47, st48, st49, st50, st51, st52, st53, st54, st55, st56, st57, st58, st59, st60, st61, st62, st63, st64, st65, st66, st67, st68, st69, st70, st71, st72, st73, st74, st75, st76, st77, st78, st79, st80, st81, st82, st83, st84, st85, st86, st87, st88, st89, st90, st91, R0, R_line, R_begins, R_ends, h1, h2, c0, s1, s2, inR]))) <;> (try (first | omega | exact hz))
    · have hz := go 0 (by omega) (by simp [sgd, s1, s2])
      simp at hz
      (repeat' (first | with_reducible assumption | (refine And.intro ?_ ?_) | (with_reducible intro _) | (simp [wp_ne 36, wpE, mk_X11_isNumber, mg, mc_X11_isNumber, lget, lset, popN, cats, rcv, entL, isArr, kC_s, kC_n, st1, st2, st3, st4, st5, st6, st7, st8, st9, st10, st11, st12, st13, st14, st15, st16, st17, st18, st19, st20, st21, st22, st23, st24, st25, st26, st27, st28, st29, st30, st31, st32, st33, st34, st35, st36, st37, st38, st39, st40, st41, st42, st43, st44, st45, st46, st47, st48, st49, st50, st51, st52, st53, st54, st55, st56, st57, st58, st59, st60, st61, st62, st63, st64, st65, st66, st67, st68, st69, st70, st71, st72, st73, st74, st75, st76, st77, st78, st79, st80, st81, st82, st83, st84, st85, st86, st87, st88, st89, st90, st91, R0, R_line, R_begins, R_ends, h1, h2, c0, s1, s2, inR]))) <;> (try (first | omega | exact hz))
theorem typK_eq (w : List Int) : typK w = ((w == [100]) || (w == [102]) || (w == [108])) := by
  unfold typK
  by_cases hl : w.length = 1
  · have := lf_one hl
    generalize lf w 0 = z at *
    rw [this]
    simp
  · have e : ∀ c : Int, (w == [c]) = false := fun c => by
      cases hq : w == [c] with
      | false => rfl
      | true => rw [beq_iff_eq] at hq; rw [hq] at hl; simp at hl
    simp [hl, e]
theorem r_mayFollow {G : Nat → Nat} {d r k t : Nat} {h : mH} {L : List Int} {C : mQ} {X : mX} (hd : 3 ≤ d) (HR : RN r h) (hl : L.length ≤ 100) (HP : RP r h L) (H : RW r h L) (hk : k < (wds L).length) (ht : t ≤ 5) (hC : C (some (.inl (b01 (opd (t + 6) (wd L k)).isSome))) h) :
    callG (wp G) d 128 0 0 3 [.inr (.inl (some r)), .inl (t : Int), .inl (k : Int)] h C X := by
  have R0 := HR.1
  refine cg 2 (by omega) (fun d hd => ?_)
  have hd0 : (0 < d) = True := eq_true (by omega)
  unfold opd at hC
  by_cases t1 : t = 1
  · subst t1
    rw [if_pos rfl] at hC
    have hty : (if typK (wd L k) = true then some (typN (wd L k), (0 : Int)) else none).isSome = typK (wd L k) := by cases typK (wd L k) <;> rfl
    rw [hty, typK_eq] at hC
    have iw : ∀ {a : Int} {C : mQ} {X : mX}, C (some (.inl (b01 (wd L k == [a])))) h → callG (wp G) d 98 0 0 5 [.inr (.inl (some r)), .inl (k : Int), .inl a, .inl 0] h C X := fun {a C X} z => r_isWord (b := 0) (by omega) HR hl HP H hk z
    have hz := hC
    cases q1 : (wd L k == [100]) <;> cases q2 : (wd L k == [102]) <;> cases q3 : (wd L k == [108])
    all_goals
      simp [q1, q2, q3, b01] at hz
      (repeat' (first | with_reducible assumption | (refine iw ?_) | (refine And.intro ?_ ?_) | (with_reducible intro _) | (simp [wp_eq, wpE, mk_X11_mayFollow, mg, mc_X11_mayFollow, lget, lset, popN, cats, rcv, entL, isArr, kC_s, kC_n, st1, st2, st3, st4, st5, st6, st7, st8, st9, st10, st11, st12, st13, st14, st15, st16, st17, st18, st19, st20, st21, st22, st23, st24, st25, st26, st27, st28, st29, st30, st31, st32, st33, st34, st35, st36, st37, st38, st39, st40, st41, st42, st43, st44, st45, st46, st47, st48, st49, st50, st51, st52, st53, st54, st55, st56, st57, st58, st59, st60, st61, st62, st63, st64, st65, st66, st67, st68, st69, st70, st71, st72, st73, st74, st75, st76, st77, st78, st79, st80, st81, st82, st83, st84, st85, st86, st87, st88, st89, st90, st91, R0, hd0, q1, q2, q3, b01]))) <;> (try (first | omega | exact hz))
  · rw [if_neg (by omega)] at hC
    by_cases t0 : t = 0 ∨ t = 5
    · rw [if_pos (by omega)] at hC
      simp [b01] at hC
      rcases t0 with rfl | rfl
      · (repeat' (first | with_reducible assumption | (refine And.intro ?_ ?_) | (with_reducible intro _) | (simp [wp_eq, wpE, mk_X11_mayFollow, mg, mc_X11_mayFollow, lget, lset, popN, cats, rcv, entL, isArr, kC_s, kC_n, st1, st2, st3, st4, st5, st6, st7, st8, st9, st10, st11, st12, st13, st14, st15, st16, st17, st18, st19, st20, st21, st22, st23, st24, st25, st26, st27, st28, st29, st30, st31, st32, st33, st34, st35, st36, st37, st38, st39, st40, st41, st42, st43, st44, st45, st46, st47, st48, st49, st50, st51, st52, st53, st54, st55, st56, st57, st58, st59, st60, st61, st62, st63, st64, st65, st66, st67, st68, st69, st70, st71, st72, st73, st74, st75, st76, st77, st78, st79, st80, st81, st82, st83, st84, st85, st86, st87, st88, st89, st90, st91, R0, hd0]))) <;> (try (first | omega | exact hz))
      · (repeat' (first | with_reducible assumption | (refine And.intro ?_ ?_) | (with_reducible intro _) | (simp [wp_eq, wpE, mk_X11_mayFollow, mg, mc_X11_mayFollow, lget, lset, popN, cats, rcv, entL, isArr, kC_s, kC_n, st1, st2, st3, st4, st5, st6, st7, st8, st9, st10, st11, st12, st13, st14, st15, st16, st17, st18, st19, st20, st21, st22, st23, st24, st25, st26, st27, st28, st29, st30, st31, st32, st33, st34, st35, st36, st37, st38, st39, st40, st41, st42, st43, st44, st45, st46, st47, st48, st49, st50, st51, st52, st53, st54, st55, st56, st57, st58, st59, st60, st61, st62, st63, st64, st65, st66, st67, st68, st69, st70, st71, st72, st73, st74, st75, st76, st77, st78, st79, st80, st81, st82, st83, st84, st85, st86, st87, st88, st89, st90, st91, R0, hd0]))) <;> (try (first | omega | exact hz))
    · rw [if_neg (by omega)] at hC
      have z0 : ¬ (t : Int) = 0 := by omega
      have z1 : ¬ (t : Int) = 1 := by omega
      have z5 : ¬ (t : Int) = 5 := by omega
      have hz := hC
      generalize (t : Int) = tz at *
      cases q : (nbr (wd L k)).isSome
      all_goals
        have rn : ∀ {C : mQ} {X : mX}, C (some (.inl (b01 (nbr (wd L k)).isSome))) h → callG (wp G) d 125 0 0 5 [.inr (.inl (some r)), .inl (k : Int)] h C X := fun {C X} z => r_isNumber HR hl HP H hk z
        rw [q] at rn hz
        simp [b01] at rn hz
        (repeat' (first | with_reducible assumption | (refine rn ?_) | (refine And.intro ?_ ?_) | (with_reducible intro _) | (simp [wp_eq, wpE, mk_X11_mayFollow, mg, mc_X11_mayFollow, lget, lset, popN, cats, rcv, entL, isArr, kC_s, kC_n, st1, st2, st3, st4, st5, st6, st7, st8, st9, st10, st11, st12, st13, st14, st15, st16, st17, st18, st19, st20, st21, st22, st23, st24, st25, st26, st27, st28, st29, st30, st31, st32, st33, st34, st35, st36, st37, st38, st39, st40, st41, st42, st43, st44, st45, st46, st47, st48, st49, st50, st51, st52, st53, st54, st55, st56, st57, st58, st59, st60, st61, st62, st63, st64, st65, st66, st67, st68, st69, st70, st71, st72, st73, st74, st75, st76, st77, st78, st79, st80, st81, st82, st83, st84, st85, st86, st87, st88, st89, st90, st91, R0, hd0, z0, z1, z5]))) <;> (try (first | omega | exact hz))
