/-! THE REFERENCE reads an expression: words -/
def smW (w : List Int) (a b c e f : Int) (n : Nat) : Bool := decide (w.length = n) && ((lf w 0 == a) && ((lf w 1 == b) && ((lf w 2 == c) && ((lf w 3 == e) && (lf w 4 == f)))))
theorem r_same {G : Nat → Nat} {d r k n : Nat} {h : mH} {L : List Int} {C : mQ} {X : mX} {a b c e f : Int} (hd : 2 ≤ d) (HR : RN r h) (hl : L.length ≤ 100) (HP : RP r h L) (H : RW r h L) (hk : k < (wds L).length) (hn : 5 ≤ n ∧ n ≤ 6) (hC : C (some (.inl (b01 (smW (wd L k) a b c e f n)))) h) :
    callG (wp G) d 124 0 0 9 [.inr (.inl (some r)), .inl (k : Int), .inl a, .inl b, .inl c, .inl e, .inl f, .inl (n : Int)] h C X := by
  have R0 := HR.1; have R_line := rn_line HR; have R_begins := rn_begins HR
  have h1 := (H.2 k hk).1
  have h2 := (H.2 k hk).2
  have h3 := wS_le L k
  have h4 := wd_len L k
  have h5 := wds_len hl
  have hw := wds_at hk
  have e1 : ((wS L k : Int) + 1).toNat = wS L k + 1 := by omega
  have e2 : ((wS L k : Int) + 2).toNat = wS L k + 2 := by omega
  have e3 : ((wS L k : Int) + 3).toNat = wS L k + 3 := by omega
  have e4 : ((wS L k : Int) + 4).toNat = wS L k + 4 := by omega
  unfold smW at hC
  refine cg 1 (by omega) (fun d hd => ?_)
  have hd0 : (0 < d) = True := eq_true (by omega)
  by_cases hlen : (wd L k).length = n
  · have c0 := RP_wd (k := k) (i := 0) hl HP (by omega)
    simp only [Nat.add_zero] at c0
    have c1 := RP_wd (k := k) (i := 1) hl HP (by omega)
    have c2 := RP_wd (k := k) (i := 2) hl HP (by omega)
    have c3 := RP_wd (k := k) (i := 3) hl HP (by omega)
    have c4 := RP_wd (k := k) (i := 4) hl HP (by omega)
    have hlen2 : ((wd L k).length : Int) = (n : Int) := by omega
    generalize lf (wd L k) 0 = y0 at *
    generalize lf (wd L k) 1 = y1 at *
    generalize lf (wd L k) 2 = y2 at *
    generalize lf (wd L k) 3 = y3 at *
    generalize lf (wd L k) 4 = y4 at *
    have z0 : wS L k < 100 := by omega
    have z1 : wS L k + 4 < 100 := by omega
    by_cases q0 : y0 = a
    · by_cases q1 : y1 = b
      · by_cases q2 : y2 = c
        · by_cases q3 : y3 = e
          · by_cases q4 : y4 = f
            · simp [hlen, q0, q1, q2, q3, q4, b01] at hC
              (repeat' (first | with_reducible assumption | (refine r_wordSize HR hl H hk ?_) | (refine And.intro ?_ ?_) | (with_reducible intro _) | (simp [wp_eq, wpE, mk_X11_same, mg, mc_X11_same, lget, lset, popN, cats, rcv, entL, isArr, kC_s, kC_n, st1, st2, st3, st4, st5, st6, st7, st8, st9, st10, st11, st12, st13, st14, st15, st16, st17, st18, st19, st20, st21, st22, st23, st24, st25, st26, st27, st28, st29, st30, st31, st32, st33, st34, st35, st36, st37, st38, st39, st40, st41, st42, st43, st44, st45, st46, st47, st48, st49, st50, st51, st52, st53, st54, st55, st56, st57, st58, st59, st60, st61, st62, st63, st64, st65, st66, st67, st68, st69, st70, st71, st72, st73, st74, st75, st76, st77, st78, st79, st80, st81, st82, st83, st84, st85, st86, st87, st88, st89, st90, st91, R0, R_line, R_begins, hd0, h1, h2, hlen2, c0, c1, c2, c3, c4, e1, e2, e3, e4, q0, q1, q2, q3, q4, inR]))) <;> (try (first | omega | exact hz))
            · simp [hlen, q0, q1, q2, q3, q4, b01] at hC
              (repeat' (first | with_reducible assumption | (refine r_wordSize HR hl H hk ?_) | (refine And.intro ?_ ?_) | (with_reducible intro _) | (simp [wp_eq, wpE, mk_X11_same, mg, mc_X11_same, lget, lset, popN, cats, rcv, entL, isArr, kC_s, kC_n, st1, st2, st3, st4, st5, st6, st7, st8, st9, st10, st11, st12, st13, st14, st15, st16, st17, st18, st19, st20, st21, st22, st23, st24, st25, st26, st27, st28, st29, st30, st31, st32, st33, st34, st35, st36, st37, st38, st39, st40, st41, st42, st43, st44, st45, st46, st47, st48, st49, st50, st51, st52, st53, st54, st55, st56, st57, st58, st59, st60, st61, st62, st63, st64, st65, st66, st67, st68, st69, st70, st71, st72, st73, st74, st75, st76, st77, st78, st79, st80, st81, st82, st83, st84, st85, st86, st87, st88, st89, st90, st91, R0, R_line, R_begins, hd0, h1, h2, hlen2, c0, c1, c2, c3, c4, e1, e2, e3, e4, q0, q1, q2, q3, q4, inR]))) <;> (try (first | omega | exact hz))
          · simp [hlen, q0, q1, q2, q3, b01] at hC
            (repeat' (first | with_reducible assumption | (refine r_wordSize HR hl H hk ?_) | (refine And.intro ?_ ?_) | (with_reducible intro _) | (simp [wp_eq, wpE, mk_X11_same, mg, mc_X11_same, lget, lset, popN, cats, rcv, entL, isArr, kC_s, kC_n, st1, st2, st3, st4, st5, st6, st7, st8, st9, st10, st11, st12, st13, st14, st15, st16, st17, st18, st19, st20, st21, st22, st23, st24, st25, st26, st27, st28, st29, st30, st31, st32, st33, st34, st35, st36, st37, st38, st39, st40, st41, st42, st43, st44, st45, st46, st47, st48, st49, st50, st51, st52, st53, st54, st55, st56, st57, st58, st59, st60, st61, st62, st63, st64, st65, st66, st67, st68, st69, st70, st71, st72, st73, st74, st75, st76, st77, st78, st79, st80, st81, st82, st83, st84, st85, st86, st87, st88, st89, st90, st91, R0, R_line, R_begins, hd0, h1, h2, hlen2, c0, c1, c2, c3, e1, e2, e3, q0, q1, q2, q3, inR]))) <;> (try (first | omega | exact hz))
        · simp [hlen, q0, q1, q2, b01] at hC
          (repeat' (first | with_reducible assumption | (refine r_wordSize HR hl H hk ?_) | (refine And.intro ?_ ?_) | (with_reducible intro _) | (simp [wp_eq, wpE, mk_X11_same, mg, mc_X11_same, lget, lset, popN, cats, rcv, entL, isArr, kC_s, kC_n, st1, st2, st3, st4, st5, st6, st7, st8, st9, st10, st11, st12, st13, st14, st15, st16, st17, st18, st19, st20, st21, st22, st23, st24, st25, st26, st27, st28, st29, st30, st31, st32, st33, st34, st35, st36, st37, st38, st39, st40, st41, st42, st43, st44, st45, st46, st47, st48, st49, st50, st51, st52, st53, st54, st55, st56, st57, st58, st59, st60, st61, st62, st63, st64, st65, st66, st67, st68, st69, st70, st71, st72, st73, st74, st75, st76, st77, st78, st79, st80, st81, st82, st83, st84, st85, st86, st87, st88, st89, st90, st91, R0, R_line, R_begins, hd0, h1, h2, hlen2, c0, c1, c2, e1, e2, q0, q1, q2, inR]))) <;> (try (first | omega | exact hz))
      · simp [hlen, q0, q1, b01] at hC
        (repeat' (first | with_reducible assumption | (refine r_wordSize HR hl H hk ?_) | (refine And.intro ?_ ?_) | (with_reducible intro _) | (simp [wp_eq, wpE, mk_X11_same, mg, mc_X11_same, lget, lset, popN, cats, rcv, entL, isArr, kC_s, kC_n, st1, st2, st3, st4, st5, st6, st7, st8, st9, st10, st11, st12, st13, st14, st15, st16, st17, st18, st19, st20, st21, st22, st23, st24, st25, st26, st27, st28, st29, st30, st31, st32, st33, st34, st35, st36, st37, st38, st39, st40, st41, st42, st43, st44, st45, st46, st47, st48, st49, st50, st51, st52, st53, st54, st55, st56, st57, st58, st59, st60, st61, st62, st63, st64, st65, st66, st67, st68, st69, st70, st71, st72, st73, st74, st75, st76, st77, st78, st79, st80, st81, st82, st83, st84, st85, st86, st87, st88, st89, st90, st91, R0, R_line, R_begins, hd0, h1, h2, hlen2, c0, c1, e1, q0, q1, inR]))) <;> (try (first | omega | exact hz))
    · simp [hlen, q0, b01] at hC
      (repeat' (first | with_reducible assumption | (refine r_wordSize HR hl H hk ?_) | (refine And.intro ?_ ?_) | (with_reducible intro _) | (simp [wp_eq, wpE, mk_X11_same, mg, mc_X11_same, lget, lset, popN, cats, rcv, entL, isArr, kC_s, kC_n, st1, st2, st3, st4, st5, st6, st7, st8, st9, st10, st11, st12, st13, st14, st15, st16, st17, st18, st19, st20, st21, st22, st23, st24, st25, st26, st27, st28, st29, st30, st31, st32, st33, st34, st35, st36, st37, st38, st39, st40, st41, st42, st43, st44, st45, st46, st47, st48, st49, st50, st51, st52, st53, st54, st55, st56, st57, st58, st59, st60, st61, st62, st63, st64, st65, st66, st67, st68, st69, st70, st71, st72, st73, st74, st75, st76, st77, st78, st79, st80, st81, st82, st83, st84, st85, st86, st87, st88, st89, st90, st91, R0, R_line, R_begins, hd0, h1, h2, hlen2, c0, q0, inR]))) <;> (try (first | omega | exact hz))
  · have hlen2 : ¬ ((wd L k).length : Int) = (n : Int) := by omega
    simp [hlen, b01] at hC
    (repeat' (first | with_reducible assumption | (refine r_wordSize HR hl H hk ?_) | (refine And.intro ?_ ?_) | (with_reducible intro _) | (simp [wp_eq, wpE, mk_X11_same, mg, mc_X11_same, lget, lset, popN, cats, rcv, entL, isArr, kC_s, kC_n, st1, st2, st3, st4, st5, st6, st7, st8, st9, st10, st11, st12, st13, st14, st15, st16, st17, st18, st19, st20, st21, st22, st23, st24, st25, st26, st27, st28, st29, st30, st31, st32, st33, st34, st35, st36, st37, st38, st39, st40, st41, st42, st43, st44, st45, st46, st47, st48, st49, st50, st51, st52, st53, st54, st55, st56, st57, st58, st59, st60, st61, st62, st63, st64, st65, st66, st67, st68, st69, st70, st71, st72, st73, st74, st75, st76, st77, st78, st79, st80, st81, st82, st83, st84, st85, st86, st87, st88, st89, st90, st91, R0, R_line, R_begins, hd0, h1, h2, hlen2, inR]))) <;> (try (first | omega | exact hz))
theorem sm_ex {w : List Int} {a b c e f a' b' c' e' f' : Int} {n m : Nat} (h : smW w a b c e f n = true) (h' : ¬ (a = a' ∧ b = b' ∧ c = c' ∧ e = e' ∧ f = f')) : smW w a' b' c' e' f' m = false := by
  unfold smW at h ⊢
  simp only [Bool.and_eq_true, beq_iff_eq, decide_eq_true_eq] at h
  obtain ⟨-, h0, h1, h2, h3, h4⟩ := h
  rw [h0, h1, h2, h3, h4]
  cases hq : (decide (w.length = m) && ((a == a') && ((b == b') && ((c == c') && ((e == e') && (f == f')))))) with
  | false => rfl
  | true =>
    simp only [Bool.and_eq_true, beq_iff_eq, decide_eq_true_eq] at hq
    exact absurd hq.2 h'
theorem l5 {w : List Int} {a b c e f : Int} (h : smW w a b c e f 5 = true) : w = [a, b, c, e, f] := by
  unfold smW at h
  simp only [Bool.and_eq_true, beq_iff_eq, decide_eq_true_eq] at h
  obtain ⟨hl, h0, h1, h2, h3, h4⟩ := h
  match w, hl with
  | [x0, x1, x2, x3, x4], _ =>
    simp [lf] at h0 h1 h2 h3 h4
    subst h0 h1 h2 h3 h4
    rfl
theorem l6 {w : List Int} {a b c e f : Int} (h : smW w a b c e f 6 = true) : w = [a, b, c, e, f, lf w 5] := by
  unfold smW at h
  simp only [Bool.and_eq_true, beq_iff_eq, decide_eq_true_eq] at h
  obtain ⟨hl, h0, h1, h2, h3, h4⟩ := h
  match w, hl with
  | [x0, x1, x2, x3, x4, x5], _ =>
    simp [lf] at h0 h1 h2 h3 h4
    subst h0 h1 h2 h3 h4
    rfl
def tsO (w : List Int) : Int := if 6 ≤ kdOf w then (kdOf w : Int) - 6 else -1
theorem kd_sT {w : List Int} {i : Nat} (h : kdOf w = i) (hi : ¬ i = 0) : w = sT i := by
  have key : ∀ (P : Prop) [Decidable P] (b a : Nat), (P → w = sT a) → (b = i → w = sT i) → (if P then a else b) = i → w = sT i := fun P _ b a h1 h2 h3 => by
    by_cases hP : P
    · rw [if_pos hP] at h3; rw [← h3]; exact h1 hP
    · rw [if_neg hP] at h3; exact h2 h3
  unfold kdOf at h
  revert h
  repeat' (refine key _ _ _ (fun q => q) ?_)
  intro q; exact absurd q.symm hi
