/-! THE REFERENCE: words, names -/
theorem r_wordSize {G : Nat → Nat} {d r k : Nat} {h : mH} {L : List Int} {C : mQ} {X : mX} (HR : RN r h) (hl : L.length ≤ 100) (H : RW r h L) (hk : k < (wds L).length) (hC : C (some (.inl ((wd L k).length : Int))) h) : callG (wp G) d 97 0 0 2 [.inr (.inl (some r)), .inl (k : Int)] h C X := by
  have R0 := HR.1; have R_begins := rn_begins HR; have R_ends := rn_ends HR
  have h1 := (H.2 k hk).1
  have h2 := (H.2 k hk).2
  have h3 := wS_le L k
  have h4 := wd_len L k
  have h5 := wds_len hl
  have e1 : (wE L k : Int) - (wS L k : Int) = ((wd L k).length : Int) := by omega
  refine ⟨C, fun _ _ => False, ?_, fun _ _ q => q, fun _ _ q => q.elim⟩
  (repeat' (first | with_reducible assumption | (refine And.intro ?_ ?_) | (with_reducible intro _) | (simp [wp_eq, wpE, mk_X11_wordSize, mg, mc_X11_wordSize, lget, lset, popN, cats, rcv, entL, isArr, kC_s, kC_n, st1, st2, st3, st4, st5, st6, st7, st8, st9, st10, st11, st12, st13, st14, st15, st16, st17, st18, st19, st20, st21, st22, st23, st24, st25, st26, st27, st28, st29, st30, st31, st32, st33, st34, st35, st36, st37, st38, st39, st40, st41, st42, st43, st44, st45, st46, st47, st48, st49, st50, st51, st52, st53, st54, st55, st56, st57, st58, st59, st60, st61, st62, st63, st64, st65, st66, st67, st68, st69, st70, st71, st72, st73, st74, st75, st76, st77, st78, st79, st80, st81, st82, st83, st84, st85, st86, st87, st88, st89, st90, st91, R0, R_begins, R_ends, h1, h2, e1, inR]))) <;> (try (first | omega | exact hz))
theorem RP_wd {r k i : Nat} {h : mH} {L : List Int} (hl : L.length ≤ 100) (H : RP r h L) (hi : i < (wd L k).length) : hvi h (r + 13) (wS L k + i) = lf (wd L k) i := by
  have h1 := wd_len L k
  have h2 := wS_le L k
  rw [wd_get (by omega)]
  exact H.2 _ (by omega) (by omega)
theorem r_isWord {G : Nat → Nat} {d r k : Nat} {h : mH} {L : List Int} {C : mQ} {X : mX} {a b : Int} (hd : 2 ≤ d) (HR : RN r h) (hl : L.length ≤ 100) (HP : RP r h L) (H : RW r h L) (hk : k < (wds L).length) (hC : C (some (.inl (b01 (wd L k == (if b = 0 then [a] else [a, b]))))) h) :
    callG (wp G) d 98 0 0 5 [.inr (.inl (some r)), .inl (k : Int), .inl a, .inl b] h C X := by
  have R0 := HR.1; have R_line := rn_line HR; have R_begins := rn_begins HR
  have h1 := (H.2 k hk).1
  have h2 := (H.2 k hk).2
  have h3 := wS_le L k
  have h4 := wd_len L k
  have h5 := wds_len hl
  have hw := wds_at hk
  have c0 := RP_wd (k := k) (i := 0) hl HP (by omega)
  simp only [Nat.add_zero] at c0
  have e1 : ((wS L k : Int) + 1).toNat = wS L k + 1 := by omega
  refine cg 1 (by omega) (fun d hd => ?_)
  have hd0 : (0 < d) = True := eq_true (by omega)
  by_cases hb : b = 0
  · rw [if_pos hb] at hC
    by_cases hn : (wd L k).length = 1
    · have hs := lf_one hn
      generalize lf (wd L k) 0 = z at *
      rw [hs] at hC
      have hn2 : ((wd L k).length : Int) = 1 := by omega
      by_cases hz : z = a
      · simp [hz, b01] at hC
        (repeat' (first | with_reducible assumption | (refine r_wordSize HR hl H hk ?_) | (refine And.intro ?_ ?_) | (with_reducible intro _) | (simp [wp_eq, wpE, mk_X11_isWord, mg, mc_X11_isWord, lget, lset, popN, cats, rcv, entL, isArr, kC_s, kC_n, st1, st2, st3, st4, st5, st6, st7, st8, st9, st10, st11, st12, st13, st14, st15, st16, st17, st18, st19, st20, st21, st22, st23, st24, st25, st26, st27, st28, st29, st30, st31, st32, st33, st34, st35, st36, st37, st38, st39, st40, st41, st42, st43, st44, st45, st46, st47, st48, st49, st50, st51, st52, st53, st54, st55, st56, st57, st58, st59, st60, st61, st62, st63, st64, st65, st66, st67, st68, st69, st70, st71, st72, st73, st74, st75, st76, st77, st78, st79, st80, st81, st82, st83, st84, st85, st86, st87, st88, st89, st90, st91, R0, R_line, R_begins, hd0, h1, h2, hb, hn2, c0, hz, inR]))) <;> (try (first | omega | exact hz))
      · simp [hz, b01] at hC
        (repeat' (first | with_reducible assumption | (refine r_wordSize HR hl H hk ?_) | (refine And.intro ?_ ?_) | (with_reducible intro _) | (simp [wp_eq, wpE, mk_X11_isWord, mg, mc_X11_isWord, lget, lset, popN, cats, rcv, entL, isArr, kC_s, kC_n, st1, st2, st3, st4, st5, st6, st7, st8, st9, st10, st11, st12, st13, st14, st15, st16, st17, st18, st19, st20, st21, st22, st23, st24, st25, st26, st27, st28, st29, st30, st31, st32, st33, st34, st35, st36, st37, st38, st39, st40, st41, st42, st43, st44, st45, st46, st47, st48, st49, st50, st51, st52, st53, st54, st55, st56, st57, st58, st59, st60, st61, st62, st63, st64, st65, st66, st67, st68, st69, st70, st71, st72, st73, st74, st75, st76, st77, st78, st79, st80, st81, st82, st83, st84, st85, st86, st87, st88, st89, st90, st91, R0, R_line, R_begins, hd0, h1, h2, hb, hn2, c0, hz, inR]))) <;> (try (first | omega | exact hz))
    · have hne : ¬ wd L k = [a] := fun q => hn (by rw [q]; rfl)
      have hn2 : ¬ ((wd L k).length : Int) = 1 := by omega
      simp [hne, b01] at hC
      (repeat' (first | with_reducible assumption | (refine r_wordSize HR hl H hk ?_) | (refine And.intro ?_ ?_) | (with_reducible intro _) | (simp [wp_eq, wpE, mk_X11_isWord, mg, mc_X11_isWord, lget, lset, popN, cats, rcv, entL, isArr, kC_s, kC_n, st1, st2, st3, st4, st5, st6, st7, st8, st9, st10, st11, st12, st13, st14, st15, st16, st17, st18, st19, st20, st21, st22, st23, st24, st25, st26, st27, st28, st29, st30, st31, st32, st33, st34, st35, st36, st37, st38, st39, st40, st41, st42, st43, st44, st45, st46, st47, st48, st49, st50, st51, st52, st53, st54, st55, st56, st57, st58, st59, st60, st61, st62, st63, st64, st65, st66, st67, st68, st69, st70, st71, st72, st73, st74, st75, st76, st77, st78, st79, st80, st81, st82, st83, st84, st85, st86, st87, st88, st89, st90, st91, R0, R_line, R_begins, hd0, h1, h2, hb, hn2, inR]))) <;> (try (first | omega | exact hz))
  · rw [if_neg hb] at hC
    by_cases hn : (wd L k).length = 2
    · have c1 := RP_wd (k := k) (i := 1) hl HP (by omega)
      have hs := lf_two hn
      generalize lf (wd L k) 0 = z at *
      generalize lf (wd L k) 1 = z1 at *
      rw [hs] at hC
      have hn2 : ((wd L k).length : Int) = 2 := by omega
      by_cases hz : z = a
      · by_cases hz1 : z1 = b
        · simp [hz, hz1, b01] at hC
          (repeat' (first | with_reducible assumption | (refine r_wordSize HR hl H hk ?_) | (refine And.intro ?_ ?_) | (with_reducible intro _) | (simp [wp_eq, wpE, mk_X11_isWord, mg, mc_X11_isWord, lget, lset, popN, cats, rcv, entL, isArr, kC_s, kC_n, st1, st2, st3, st4, st5, st6, st7, st8, st9, st10, st11, st12, st13, st14, st15, st16, st17, st18, st19, st20, st21, st22, st23, st24, st25, st26, st27, st28, st29, st30, st31, st32, st33, st34, st35, st36, st37, st38, st39, st40, st41, st42, st43, st44, st45, st46, st47, st48, st49, st50, st51, st52, st53, st54, st55, st56, st57, st58, st59, st60, st61, st62, st63, st64, st65, st66, st67, st68, st69, st70, st71, st72, st73, st74, st75, st76, st77, st78, st79, st80, st81, st82, st83, st84, st85, st86, st87, st88, st89, st90, st91, R0, R_line, R_begins, hd0, h1, h2, hb, hn2, c0, hz, c1, hz1, e1, inR]))) <;> (try (first | omega | exact hz))
        · simp [hz, hz1, b01] at hC
          (repeat' (first | with_reducible assumption | (refine r_wordSize HR hl H hk ?_) | (refine And.intro ?_ ?_) | (with_reducible intro _) | (simp [wp_eq, wpE, mk_X11_isWord, mg, mc_X11_isWord, lget, lset, popN, cats, rcv, entL, isArr, kC_s, kC_n, st1, st2, st3, st4, st5, st6, st7, st8, st9, st10, st11, st12, st13, st14, st15, st16, st17, st18, st19, st20, st21, st22, st23, st24, st25, st26, st27, st28, st29, st30, st31, st32, st33, st34, st35, st36, st37, st38, st39, st40, st41, st42, st43, st44, st45, st46, st47, st48, st49, st50, st51, st52, st53, st54, st55, st56, st57, st58, st59, st60, st61, st62, st63, st64, st65, st66, st67, st68, st69, st70, st71, st72, st73, st74, st75, st76, st77, st78, st79, st80, st81, st82, st83, st84, st85, st86, st87, st88, st89, st90, st91, R0, R_line, R_begins, hd0, h1, h2, hb, hn2, c0, hz, c1, hz1, e1, inR]))) <;> (try (first | omega | exact hz))
      · simp [hz, b01] at hC
        (repeat' (first | with_reducible assumption | (refine r_wordSize HR hl H hk ?_) | (refine And.intro ?_ ?_) | (with_reducible intro _) | (simp [wp_eq, wpE, mk_X11_isWord, mg, mc_X11_isWord, lget, lset, popN, cats, rcv, entL, isArr, kC_s, kC_n, st1, st2, st3, st4, st5, st6, st7, st8, st9, st10, st11, st12, st13, st14, st15, st16, st17, st18, st19, st20, st21, st22, st23, st24, st25, st26, st27, st28, st29, st30, st31, st32, st33, st34, st35, st36, st37, st38, st39, st40, st41, st42, st43, st44, st45, st46, st47, st48, st49, st50, st51, st52, st53, st54, st55, st56, st57, st58, st59, st60, st61, st62, st63, st64, st65, st66, st67, st68, st69, st70, st71, st72, st73, st74, st75, st76, st77, st78, st79, st80, st81, st82, st83, st84, st85, st86, st87, st88, st89, st90, st91, R0, R_line, R_begins, hd0, h1, h2, hb, hn2, c0, hz, inR]))) <;> (try (first | omega | exact hz))
    · have hne : ¬ wd L k = [a, b] := fun q => hn (by rw [q]; rfl)
      have hn2 : ¬ ((wd L k).length : Int) = 2 := by omega
      simp [hne, b01] at hC
      (repeat' (first | with_reducible assumption | (refine r_wordSize HR hl H hk ?_) | (refine And.intro ?_ ?_) | (with_reducible intro _) | (simp [wp_eq, wpE, mk_X11_isWord, mg, mc_X11_isWord, lget, lset, popN, cats, rcv, entL, isArr, kC_s, kC_n, st1, st2, st3, st4, st5, st6, st7, st8, st9, st10, st11, st12, st13, st14, st15, st16, st17, st18, st19, st20, st21, st22, st23, st24, st25, st26, st27, st28, st29, st30, st31, st32, st33, st34, st35, st36, st37, st38, st39, st40, st41, st42, st43, st44, st45, st46, st47, st48, st49, st50, st51, st52, st53, st54, st55, st56, st57, st58, st59, st60, st61, st62, st63, st64, st65, st66, st67, st68, st69, st70, st71, st72, st73, st74, st75, st76, st77, st78, st79, st80, st81, st82, st83, st84, st85, st86, st87, st88, st89, st90, st91, R0, R_line, R_begins, hd0, h1, h2, hb, hn2, inR]))) <;> (try (first | omega | exact hz))
theorem r_isSign {G : Nat → Nat} {d : Nat} {h : mH} {C : mQ} {X : mX} {c : Int} (hC : C (some (.inl (b01 (sgn c)))) h) : callG (wp G) d 99 0 0 1 [.inl c] h C X := by
  refine ⟨C, fun _ _ => False, ?_, fun _ _ q => q, fun _ _ q => q.elim⟩
  by_cases hs : ((97 ≤ c ∧ c ≤ 122) ∨ (48 ≤ c ∧ c ≤ 57) ∨ c = 46 ∨ c = 95 ∨ c = 45)
  · rw [sgn_iff.mpr hs] at hC
    simp [b01] at hC
    (repeat' (first | with_reducible assumption | (refine And.intro ?_ ?_) | (with_reducible intro _) | (simp [wp_eq, wpE, mk_X11_isSign, mg, mc_X11_isSign, lget, lset, popN, cats, rcv, entL, isArr, kC_s, kC_n, st1, st2, st3, st4, st5, st6, st7, st8, st9, st10, st11, st12, st13, st14, st15, st16, st17, st18, st19, st20, st21, st22, st23, st24, st25, st26, st27, st28, st29, st30, st31, st32, st33, st34, st35, st36, st37, st38, st39, st40, st41, st42, st43, st44, st45, st46, st47, st48, st49, st50, st51, st52, st53, st54, st55, st56, st57, st58, st59, st60, st61, st62, st63, st64, st65, st66, st67, st68, st69, st70, st71, st72, st73, st74, st75, st76, st77, st78, st79, st80, st81, st82, st83, st84, st85, st86, st87, st88, st89, st90, st91]))) <;> (try (first | omega | exact hz))
  · rw [sgn_no hs] at hC
    simp [b01] at hC
    (repeat' (first | with_reducible assumption | (refine And.intro ?_ ?_) | (with_reducible intro _) | (simp [wp_eq, wpE, mk_X11_isSign, mg, mc_X11_isSign, lget, lset, popN, cats, rcv, entL, isArr, kC_s, kC_n, st1, st2, st3, st4, st5, st6, st7, st8, st9, st10, st11, st12, st13, st14, st15, st16, st17, st18, st19, st20, st21, st22, st23, st24, st25, st26, st27, st28, st29, st30, st31, st32, st33, st34, st35, st36, st37, st38, st39, st40, st41, st42, st43, st44, st45, st46, st47, st48, st49, st50, st51, st52, st53, st54, st55, st56, st57, st58, st59, st60, st61, st62, st63, st64, st65, st66, st67, st68, st69, st70, st71, st72, st73, st74, st75, st76, st77, st78, st79, st80, st81, st82, st83, st84, st85, st86, st87, st88, st89, st90, st91]))) <;> (try (first | omega | exact hz))
theorem rName_loop {G : Nat → Nat} {d a N s : Nat} {h : mH} {C : mQ} {X : mX} {w : List Int} (hd : 1 ≤ d) (ht : hty h a = some (21, N)) (hN : s + w.length ≤ N) (hN2 : N ≤ 60000) (hr : ro h a s w) (hC : C (some (.inl (b01 (isNm w)))) h) :
    ∀ (m i : Nat) (b : Bool), m + i = w.length → (decide (1 ≤ w.length) && decide (w.length ≤ 14) && w.all sgn) = (b && (w.drop i).all sgn) →
    wp G d 100 100025 [some (.inr (.inl (some a))), some (.inl (s : Int)), some (.inl ((s + w.length : Nat) : Int)), some (.inl (w.length : Int)), some (.inl (b01 b)), some (.inl ((s + i : Nat) : Int))] [] h 0 0 C X := by
  have hd0 : (0 < d) = True := eq_true (by omega)
  intro m
  induction m with
  | zero =>
    intro i b hm hw
    have he : w.drop i = [] := List.drop_of_length_le (by omega)
    have hi : i = w.length := by omega
    rw [he] at hw
    simp only [List.all_nil, Bool.and_true] at hw
    rw [wp_hd]
    by_cases h1 : w.length = 1
    · have c0 := hr 0 (by omega)
      have hs := lf_one h1
      have h1' : (w.length : Int) = 1 := by omega
      generalize lf w 0 = z at *
      simp only [Nat.add_zero] at c0
      have hC2 : C (some (.inl (b01 (b && !(z == 46))))) h := by
        have : isNm w = (b && !(z == 46)) := by rw [← hw, isNm, hs]; simp
        rw [← this]; exact hC
      cases b <;> by_cases hz : z = 46
      all_goals
        simp [b01, hz] at hC2
        (repeat' (first | with_reducible assumption | (refine And.intro ?_ ?_) | (with_reducible intro _) | (simp [wp_eq, wpE, mk_X11_isName, mg, mc_X11_isName, lget, lset, popN, cats, rcv, entL, isArr, kC_s, kC_n, st1, st2, st3, st4, st5, st6, st7, st8, st9, st10, st11, st12, st13, st14, st15, st16, st17, st18, st19, st20, st21, st22, st23, st24, st25, st26, st27, st28, st29, st30, st31, st32, st33, st34, st35, st36, st37, st38, st39, st40, st41, st42, st43, st44, st45, st46, st47, st48, st49, st50, st51, st52, st53, st54, st55, st56, st57, st58, st59, st60, st61, st62, st63, st64, st65, st66, st67, st68, st69, st70, st71, st72, st73, st74, st75, st76, st77, st78, st79, st80, st81, st82, st83, st84, st85, st86, st87, st88, st89, st90, st91, -Int.natCast_add, ht, hi, h1', c0, hz, b01]))) <;> (try (first | omega | exact hz))
    · by_cases h2 : w.length = 2
      · have c0 := hr 0 (by omega)
        have c1 := hr 1 (by omega)
        have hs := lf_two h2
        have h2' : (w.length : Int) = 2 := by omega
        generalize lf w 0 = z at *
        generalize lf w 1 = z1 at *
        simp only [Nat.add_zero] at c0
        have e3 : ((s : Int) + 1).toNat = s + 1 := by omega
        have hC2 : C (some (.inl (b01 (b && !(z == 46 && z1 == 46))))) h := by
          have : isNm w = (b && !(z == 46 && z1 == 46)) := by rw [← hw, isNm, hs]; simp
          rw [← this]; exact hC
        cases b <;> by_cases hz : z = 46 <;> by_cases hz1 : z1 = 46
        all_goals
          simp [b01, hz, hz1] at hC2
          (repeat' (first | with_reducible assumption | (refine And.intro ?_ ?_) | (with_reducible intro _) | (simp [wp_eq, wpE, mk_X11_isName, mg, mc_X11_isName, lget, lset, popN, cats, rcv, entL, isArr, kC_s, kC_n, st1, st2, st3, st4, st5, st6, st7, st8, st9, st10, st11, st12, st13, st14, st15, st16, st17, st18, st19, st20, st21, st22, st23, st24, st25, st26, st27, st28, st29, st30, st31, st32, st33, st34, st35, st36, st37, st38, st39, st40, st41, st42, st43, st44, st45, st46, st47, st48, st49, st50, st51, st52, st53, st54, st55, st56, st57, st58, st59, st60, st61, st62, st63, st64, st65, st66, st67, st68, st69, st70, st71, st72, st73, st74, st75, st76, st77, st78, st79, st80, st81, st82, st83, st84, st85, st86, st87, st88, st89, st90, st91, -Int.natCast_add, ht, hi, h2', c0, c1, hz, hz1, e3, b01, inR]))) <;> (try (first | omega | exact hz))
      · have h1' : ¬ (w.length : Int) = 1 := by omega
        have h2' : ¬ (w.length : Int) = 2 := by omega
        have hC2 : C (some (.inl (b01 b))) h := by
          have : isNm w = b := by
            rw [isNm, hw]
            by_cases h0 : w.length = 0
            · have : b = false := by rw [← hw]; simp [h0]
              rw [this]; rfl
            · simp [show ¬ w.length ≤ 2 by omega]
          rw [← this]; exact hC
        cases b
        all_goals
          simp [b01] at hC2
          (repeat' (first | with_reducible assumption | (refine And.intro ?_ ?_) | (with_reducible intro _) | (simp [wp_eq, wpE, mk_X11_isName, mg, mc_X11_isName, lget, lset, popN, cats, rcv, entL, isArr, kC_s, kC_n, st1, st2, st3, st4, st5, st6, st7, st8, st9, st10, st11, st12, st13, st14, st15, st16, st17, st18, st19, st20, st21, st22, st23, st24, st25, st26, st27, st28, st29, st30, st31, st32, st33, st34, st35, st36, st37, st38, st39, st40, st41, st42, st43, st44, st45, st46, st47, st48, st49, st50, st51, st52, st53, st54, st55, st56, st57, st58, st59, st60, st61, st62, st63, st64, st65, st66, st67, st68, st69, st70, st71, st72, st73, st74, st75, st76, st77, st78, st79, st80, st81, st82, st83, st84, st85, st86, st87, st88, st89, st90, st91, -Int.natCast_add, ht, hi, h1', h2', b01]))) <;> (try (first | omega | exact hz))
  | succ m ih =>
    intro i b hm hw
    have hc := hr i (by omega)
    rw [drop_lf (by omega)] at hw
    have e1 : ((s + i : Nat) : Int) + 1 = ((s + (i + 1) : Nat) : Int) := by omega
    have e2 : ((s + i : Nat) : Int).toNat = s + i := by omega
    rw [wp_hd]
    have hi : i < w.length := by omega
    cases b
    · have hz := ih (i + 1) false (by omega) (by rw [hw]; simp)
      simp only [b01] at hz ⊢
      (repeat' (first | with_reducible assumption | (refine And.intro ?_ ?_) | (with_reducible intro _) | (simp [wp_eq, wpE, mk_X11_isName, mg, mc_X11_isName, lget, lset, popN, cats, rcv, entL, isArr, kC_s, kC_n, st1, st2, st3, st4, st5, st6, st7, st8, st9, st10, st11, st12, st13, st14, st15, st16, st17, st18, st19, st20, st21, st22, st23, st24, st25, st26, st27, st28, st29, st30, st31, st32, st33, st34, st35, st36, st37, st38, st39, st40, st41, st42, st43, st44, st45, st46, st47, st48, st49, st50, st51, st52, st53, st54, st55, st56, st57, st58, st59, st60, st61, st62, st63, st64, st65, st66, st67, st68, st69, st70, st71, st72, st73, st74, st75, st76, st77, st78, st79, st80, st81, st82, st83, st84, st85, st86, st87, st88, st89, st90, st91, -Int.natCast_add, ht, e1, e2, hc, hi, inR, b01]))) <;> (try (first | omega | exact hz))
    · have hz := ih (i + 1) (sgn (lf w i)) (by omega) (by rw [hw]; simp)
      cases hs : sgn (lf w i)
      all_goals
        rw [hs] at hz
        simp only [b01] at hz ⊢
        (repeat' (first | with_reducible assumption | (refine r_isSign ?_) | (refine And.intro ?_ ?_) | (with_reducible intro _) | (simp [wp_eq, wpE, mk_X11_isName, mg, mc_X11_isName, lget, lset, popN, cats, rcv, entL, isArr, kC_s, kC_n, st1, st2, st3, st4, st5, st6, st7, st8, st9, st10, st11, st12, st13, st14, st15, st16, st17, st18, st19, st20, st21, st22, st23, st24, st25, st26, st27, st28, st29, st30, st31, st32, st33, st34, st35, st36, st37, st38, st39, st40, st41, st42, st43, st44, st45, st46, st47, st48, st49, st50, st51, st52, st53, st54, st55, st56, st57, st58, st59, st60, st61, st62, st63, st64, st65, st66, st67, st68, st69, st70, st71, st72, st73, st74, st75, st76, st77, st78, st79, st80, st81, st82, st83, st84, st85, st86, st87, st88, st89, st90, st91, -Int.natCast_add, ht, e1, e2, hc, hi, hd0, hs, inR, b01]))) <;> (try (first | omega | exact hz))
theorem r_isName {G : Nat → Nat} {d a N s : Nat} {h : mH} {C : mQ} {X : mX} {w : List Int} (hd : 2 ≤ d) (ht : hty h a = some (21, N)) (hN : s + w.length ≤ N) (hN2 : N ≤ 60000) (hr : ro h a s w) (hC : C (some (.inl (b01 (isNm w)))) h) :
    callG (wp G) d 100 0 0 6 [.inr (.inl (some a)), .inl (s : Int), .inl ((s + w.length : Nat) : Int)] h C X := by
  have e1 : ((s + w.length : Nat) : Int) - (s : Int) = (w.length : Int) := by omega
  refine cg 1 (by omega) (fun d hd => ?_)
  have hd0 : (0 < d) = True := eq_true (by omega)
  by_cases h14 : 1 ≤ w.length ∧ w.length ≤ 14
  · have hz := rName_loop (G := G) (d := d) (X := fun _ _ => False) hd ht hN hN2 hr hC w.length 0 true (by omega) (by simp [h14.1, h14.2])
    simp only [b01, Nat.add_zero] at hz
    (repeat' (first | with_reducible assumption | (refine And.intro ?_ ?_) | (with_reducible intro _) | (simp [wp_eq, wpE, mk_X11_isName, mg, mc_X11_isName, lget, lset, popN, cats, rcv, entL, isArr, kC_s, kC_n, st1, st2, st3, st4, st5, st6, st7, st8, st9, st10, st11, st12, st13, st14, st15, st16, st17, st18, st19, st20, st21, st22, st23, st24, st25, st26, st27, st28, st29, st30, st31, st32, st33, st34, st35, st36, st37, st38, st39, st40, st41, st42, st43, st44, st45, st46, st47, st48, st49, st50, st51, st52, st53, st54, st55, st56, st57, st58, st59, st60, st61, st62, st63, st64, st65, st66, st67, st68, st69, st70, st71, st72, st73, st74, st75, st76, st77, st78, st79, st80, st81, st82, st83, st84, st85, st86, st87, st88, st89, st90, st91, -Int.natCast_add, e1, inR]))) <;> (try (first | omega | exact hz))
  · have hz := rName_loop (G := G) (d := d) (X := fun _ _ => False) hd ht hN hN2 hr hC w.length 0 false (by omega) (by
      by_cases h1 : 1 ≤ w.length
      · have : ¬ w.length ≤ 14 := fun q => h14 ⟨h1, q⟩
        simp [this]
      · simp [h1])
    simp only [b01, Nat.add_zero] at hz
    (repeat' (first | with_reducible assumption | (refine And.intro ?_ ?_) | (with_reducible intro _) | (simp [wp_eq, wpE, mk_X11_isName, mg, mc_X11_isName, lget, lset, popN, cats, rcv, entL, isArr, kC_s, kC_n, st1, st2, st3, st4, st5, st6, st7, st8, st9, st10, st11, st12, st13, st14, st15, st16, st17, st18, st19, st20, st21, st22, st23, st24, st25, st26, st27, st28, st29, st30, st31, st32, st33, st34, st35, st36, st37, st38, st39, st40, st41, st42, st43, st44, st45, st46, st47, st48, st49, st50, st51, st52, st53, st54, st55, st56, st57, st58, st59, st60, st61, st62, st63, st64, st65, st66, st67, st68, st69, st70, st71, st72, st73, st74, st75, st76, st77, st78, st79, st80, st81, st82, st83, st84, st85, st86, st87, st88, st89, st90, st91, -Int.natCast_add, e1, inR]))) <;> (try (first | omega | exact hz))
theorem rcmp_loop {G : Nat → Nat} {d r a e s N k : Nat} {h : mH} {C : mQ} {X : mX} {u w : List Int} {x4 : Option mV} (HR : RN r h) (he : e < 576) (hu : ro h (r + 12) (14 * e) u) (bu : bd u) (bw : bd w) (hul : u.length ≤ 14) (hk : k = 21) (ht : hty h a = some (k, N)) (hN : s + w.length ≤ N) (hN2 : N ≤ 60000) (hr : ro h a s w) :
    ∀ (m i : Nat) (x8 : Option mV), m + i = u.length → C (some (.inl (cmpv (u.drop i) (w.drop i)))) h → i ≤ w.length →
    wp G d 101 100017 [some (.inr (.inl (some r))), some (.inl (e : Int)), some (.inr (.inl (some a))), some (.inl (s : Int)), x4, some (.inl (u.length : Int)), some (.inl (w.length : Int)), some (.inl (i : Int)), x8] [] h 0 0 C X := by
  have R0 := HR.1; have R_nameSizes := rn_nameSizes HR; have R_names := rn_names HR
  subst hk
  intro m
  induction m with
  | zero =>
    intro i x8 hm hC hi
    have hd : u.drop i = [] := List.drop_of_length_le (by omega)
    rw [hd] at hC
    have ec : cmpv [] (w.drop i) = (u.length : Int) - (w.length : Int) := by simp [cmpv]; omega
    rw [ec] at hC
    have hiu : i = u.length := by omega
    rw [wp_hd]
    (repeat' (first | with_reducible assumption | (refine And.intro ?_ ?_) | (with_reducible intro _) | (simp [wp_eq, wpE, mk_X11_compare, mg, mc_X11_compare, lget, lset, popN, cats, rcv, entL, isArr, kC_s, kC_n, st1, st2, st3, st4, st5, st6, st7, st8, st9, st10, st11, st12, st13, st14, st15, st16, st17, st18, st19, st20, st21, st22, st23, st24, st25, st26, st27, st28, st29, st30, st31, st32, st33, st34, st35, st36, st37, st38, st39, st40, st41, st42, st43, st44, st45, st46, st47, st48, st49, st50, st51, st52, st53, st54, st55, st56, st57, st58, st59, st60, st61, st62, st63, st64, st65, st66, st67, st68, st69, st70, st71, st72, st73, st74, st75, st76, st77, st78, st79, st80, st81, st82, st83, st84, st85, st86, st87, st88, st89, st90, st91, R0, R_nameSizes, R_names, hiu, inR]))) <;> (try (first | omega | exact hz))
  | succ m ih =>
    intro i x8 hm hC hi
    have hc := hu i (by omega)
    have bi := lf_b bu i
    have e3 : ((s : Int) + (i : Int)).toNat = s + i := by omega
    have e4 : ((14 : Int) * (e : Int) + (i : Int)).toNat = 14 * e + i := by omega
    have hiu : i < u.length := by omega
    rw [wp_hd]
    by_cases hw : i < w.length
    · have hc2 := hr i hw
      have bj := lf_b bw i
      rw [drop_lf (L := u) (by omega), drop_lf (L := w) hw] at hC
      simp only [cmpv] at hC
      by_cases hq : lf u i = lf w i
      · rw [if_pos hq] at hC
        have hz := fun x8 => ih (i + 1) x8 (by omega) hC (by omega)
        have hq0 : lf u i - lf w i = 0 := by omega
        (repeat' (first | with_reducible assumption | (refine hz _) | (refine And.intro ?_ ?_) | (with_reducible intro _) | (simp [wp_eq, wpE, mk_X11_compare, mg, mc_X11_compare, lget, lset, popN, cats, rcv, entL, isArr, kC_s, kC_n, st1, st2, st3, st4, st5, st6, st7, st8, st9, st10, st11, st12, st13, st14, st15, st16, st17, st18, st19, st20, st21, st22, st23, st24, st25, st26, st27, st28, st29, st30, st31, st32, st33, st34, st35, st36, st37, st38, st39, st40, st41, st42, st43, st44, st45, st46, st47, st48, st49, st50, st51, st52, st53, st54, st55, st56, st57, st58, st59, st60, st61, st62, st63, st64, st65, st66, st67, st68, st69, st70, st71, st72, st73, st74, st75, st76, st77, st78, st79, st80, st81, st82, st83, st84, st85, st86, st87, st88, st89, st90, st91, R0, R_nameSizes, R_names, ht, e3, e4, inR, hc, hc2, hiu, hw, hq0]))) <;> (try (first | omega | exact hz))
      · rw [if_neg hq] at hC
        have hq0 : ¬ lf u i - lf w i = 0 := by omega
        (repeat' (first | with_reducible assumption | (refine And.intro ?_ ?_) | (with_reducible intro _) | (simp [wp_eq, wpE, mk_X11_compare, mg, mc_X11_compare, lget, lset, popN, cats, rcv, entL, isArr, kC_s, kC_n, st1, st2, st3, st4, st5, st6, st7, st8, st9, st10, st11, st12, st13, st14, st15, st16, st17, st18, st19, st20, st21, st22, st23, st24, st25, st26, st27, st28, st29, st30, st31, st32, st33, st34, st35, st36, st37, st38, st39, st40, st41, st42, st43, st44, st45, st46, st47, st48, st49, st50, st51, st52, st53, st54, st55, st56, st57, st58, st59, st60, st61, st62, st63, st64, st65, st66, st67, st68, st69, st70, st71, st72, st73, st74, st75, st76, st77, st78, st79, st80, st81, st82, st83, st84, st85, st86, st87, st88, st89, st90, st91, R0, R_nameSizes, R_names, ht, e3, e4, inR, hc, hc2, hiu, hw, hq0]))) <;> (try (first | omega | exact hz))
    · have hd : w.drop i = [] := List.drop_of_length_le (by omega)
      rw [hd, drop_lf (L := u) (by omega)] at hC
      have ec : cmpv (lf u i :: u.drop (i + 1)) [] = (u.length : Int) - (w.length : Int) := by simp [cmpv]; omega
      rw [ec] at hC
      (repeat' (first | with_reducible assumption | (refine And.intro ?_ ?_) | (with_reducible intro _) | (simp [wp_eq, wpE, mk_X11_compare, mg, mc_X11_compare, lget, lset, popN, cats, rcv, entL, isArr, kC_s, kC_n, st1, st2, st3, st4, st5, st6, st7, st8, st9, st10, st11, st12, st13, st14, st15, st16, st17, st18, st19, st20, st21, st22, st23, st24, st25, st26, st27, st28, st29, st30, st31, st32, st33, st34, st35, st36, st37, st38, st39, st40, st41, st42, st43, st44, st45, st46, st47, st48, st49, st50, st51, st52, st53, st54, st55, st56, st57, st58, st59, st60, st61, st62, st63, st64, st65, st66, st67, st68, st69, st70, st71, st72, st73, st74, st75, st76, st77, st78, st79, st80, st81, st82, st83, st84, st85, st86, st87, st88, st89, st90, st91, R0, R_nameSizes, R_names, ht, e3, e4, inR, hiu, hw]))) <;> (try (first | omega | exact hz))
theorem r_compare {G : Nat → Nat} {d r a e s N : Nat} {h : mH} {C : mQ} {X : mX} {u w : List Int} (HR : RN r h) (he : e < 576) (hn : hvi h (r + 11) e = (u.length : Int)) (hu : ro h (r + 12) (14 * e) u) (bu : bd u) (bw : bd w) (hul : u.length ≤ 14) (ht : hty h a = some (21, N)) (hN : s + w.length ≤ N) (hN2 : N ≤ 60000) (hr : ro h a s w) (hC : C (some (.inl (cmpv u w))) h) :
    callG (wp G) d 101 0 0 9 [.inr (.inl (some r)), .inl (e : Int), .inr (.inl (some a)), .inl (s : Int), .inl ((s + w.length : Nat) : Int)] h C X := by
  have R0 := HR.1; have R_nameSizes := rn_nameSizes HR; have R_names := rn_names HR
  have e1 : ((s + w.length : Nat) : Int) - (s : Int) = (w.length : Int) := by omega
  have hz := rcmp_loop (G := G) (d := d - 1) (C := C) (X := fun _ _ => False) (x4 := some (.inl ((s + w.length : Nat) : Int))) HR he hu bu bw hul rfl ht hN hN2 hr u.length 0 none rfl hC (by omega)
  refine ⟨C, fun _ _ => False, ?_, fun _ _ q => q, fun _ _ q => q.elim⟩
  (repeat' (first | with_reducible assumption | (refine And.intro ?_ ?_) | (with_reducible intro _) | (simp [wp_eq, wpE, mk_X11_compare, mg, mc_X11_compare, lget, lset, popN, cats, rcv, entL, isArr, kC_s, kC_n, st1, st2, st3, st4, st5, st6, st7, st8, st9, st10, st11, st12, st13, st14, st15, st16, st17, st18, st19, st20, st21, st22, st23, st24, st25, st26, st27, st28, st29, st30, st31, st32, st33, st34, st35, st36, st37, st38, st39, st40, st41, st42, st43, st44, st45, st46, st47, st48, st49, st50, st51, st52, st53, st54, st55, st56, st57, st58, st59, st60, st61, st62, st63, st64, st65, st66, st67, st68, st69, st70, st71, st72, st73, st74, st75, st76, st77, st78, st79, st80, st81, st82, st83, st84, st85, st86, st87, st88, st89, st90, st91, R0, R_nameSizes, R_names, -Int.natCast_add, hn, e1, inR]))) <;> (try (first | omega | exact hz))
/-- the names of a directory in the reference -/
def RE (r : Nat) (h : mH) (n : Nat) (E : List aE) : Prop := hvi h (r + 9) n = (E.length : Int) ∧ E.length ≤ 12 ∧ ∀ k p, E[k]? = some p → hvi h (r + 10) (12 * n + k) = (p.2 : Int) ∧ hvi h (r + 11) (12 * n + k) = (p.1.length : Int) ∧ ro h (r + 12) (14 * (12 * n + k)) p.1 ∧ bd p.1 ∧ p.1.length ≤ 14 ∧ p.2 < 48
def ixR (n : Nat) : Option Nat → Int
  | none => -1
  | some k => ((12 * n + k : Nat) : Int)
theorem nameAt_loop {G : Nat → Nat} {d r a s N n : Nat} {h : mH} {C : mQ} {X : mX} {w : List Int} {E : List aE} (hd : 1 ≤ d) (hn : n < 48) (HR : RN r h) (H : RE r h n E) (bw : bd w) (ht : hty h a = some (21, N)) (hN : s + w.length ≤ N) (hN2 : N ≤ 60000) (hr : ro h a s w) (hC : C (some (.inl (ixR n (ixF w 0 E)))) h) :
    ∀ (m i : Nat), m + i = E.length → ixF w 0 E = ixF w i (E.drop i) →
    wp G d 102 100003 [some (.inr (.inl (some r))), some (.inl (n : Int)), some (.inr (.inl (some a))), some (.inl (s : Int)), some (.inl ((s + w.length : Nat) : Int)), some (.inl (i : Int))] [] h 0 0 C X := by
  have R0 := HR.1; have R_many := rn_many HR
  have hd0 : (0 < d) = True := eq_true (by omega)
  obtain ⟨g1, g2, g3⟩ := H
  intro m
  induction m with
  | zero =>
    intro i hm hq
    have he : E.drop i = [] := List.drop_of_length_le (by omega)
    rw [he] at hq
    rw [hq] at hC
    have hi : i = E.length := by omega
    simp only [ixF, ixR] at hC
    rw [wp_hd]
    (repeat' (first | with_reducible assumption | (refine And.intro ?_ ?_) | (with_reducible intro _) | (simp [wp_eq, wpE, mk_X11_nameAt, mg, mc_X11_nameAt, lget, lset, popN, cats, rcv, entL, isArr, kC_s, kC_n, st1, st2, st3, st4, st5, st6, st7, st8, st9, st10, st11, st12, st13, st14, st15, st16, st17, st18, st19, st20, st21, st22, st23, st24, st25, st26, st27, st28, st29, st30, st31, st32, st33, st34, st35, st36, st37, st38, st39, st40, st41, st42, st43, st44, st45, st46, st47, st48, st49, st50, st51, st52, st53, st54, st55, st56, st57, st58, st59, st60, st61, st62, st63, st64, st65, st66, st67, st68, st69, st70, st71, st72, st73, st74, st75, st76, st77, st78, st79, st80, st81, st82, st83, st84, st85, st86, st87, st88, st89, st90, st91, R0, R_many, -Int.natCast_add, g1, hi]))) <;> (try (first | omega | exact hz))
  | succ m ih =>
    intro i hm hq
    have hp : E[i]? = some (E[i]'(by omega)) := List.getElem?_eq_getElem (by omega)
    obtain ⟨f1, f2, f3, f4, f5, f6⟩ := g3 i _ hp
    rw [dropE hp] at hq
    simp only [ixF] at hq
    have hi : i < E.length := by omega
    have e1 : (12 : Int) * (n : Int) + (i : Int) = ((12 * n + i : Nat) : Int) := by omega
    rw [wp_hd]
    by_cases hz : (E[i]'(by omega)).1 = w
    · rw [if_pos hz] at hq
      rw [hq] at hC
      simp only [ixR] at hC
      have hz0 : cmpv (E[i]'(by omega)).1 w = 0 := (cmpv_0 _ _).mpr hz
      (repeat' (first | with_reducible assumption | (refine r_compare HR (by omega) f2 f3 f4 bw f5 ht hN hN2 hr ?_) | (refine And.intro ?_ ?_) | (with_reducible intro _) | (simp [wp_eq, wpE, mk_X11_nameAt, mg, mc_X11_nameAt, lget, lset, popN, cats, rcv, entL, isArr, kC_s, kC_n, st1, st2, st3, st4, st5, st6, st7, st8, st9, st10, st11, st12, st13, st14, st15, st16, st17, st18, st19, st20, st21, st22, st23, st24, st25, st26, st27, st28, st29, st30, st31, st32, st33, st34, st35, st36, st37, st38, st39, st40, st41, st42, st43, st44, st45, st46, st47, st48, st49, st50, st51, st52, st53, st54, st55, st56, st57, st58, st59, st60, st61, st62, st63, st64, st65, st66, st67, st68, st69, st70, st71, st72, st73, st74, st75, st76, st77, st78, st79, st80, st81, st82, st83, st84, st85, st86, st87, st88, st89, st90, st91, R0, R_many, -Int.natCast_add, -Int.natCast_mul, g1, hi, e1, hd0, hz0, inR]))) <;> (try (first | omega | exact hz))
    · rw [if_neg hz] at hq
      have hz0 : ¬ cmpv (E[i]'(by omega)).1 w = 0 := fun q => hz ((cmpv_0 _ _).mp q)
      have hh := ih (i + 1) (by omega) hq
      (repeat' (first | with_reducible assumption | (refine r_compare HR (by omega) f2 f3 f4 bw f5 ht hN hN2 hr ?_) | (refine And.intro ?_ ?_) | (with_reducible intro _) | (simp [wp_eq, wpE, mk_X11_nameAt, mg, mc_X11_nameAt, lget, lset, popN, cats, rcv, entL, isArr, kC_s, kC_n, st1, st2, st3, st4, st5, st6, st7, st8, st9, st10, st11, st12, st13, st14, st15, st16, st17, st18, st19, st20, st21, st22, st23, st24, st25, st26, st27, st28, st29, st30, st31, st32, st33, st34, st35, st36, st37, st38, st39, st40, st41, st42, st43, st44, st45, st46, st47, st48, st49, st50, st51, st52, st53, st54, st55, st56, st57, st58, st59, st60, st61, st62, st63, st64, st65, st66, st67, st68, st69, st70, st71, st72, st73, st74, st75, st76, st77, st78, st79, st80, st81, st82, st83, st84, st85, st86, st87, st88, st89, st90, st91, R0, R_many, -Int.natCast_add, -Int.natCast_mul, g1, hi, e1, hd0, hz0, inR]))) <;> (try (first | omega | exact hz))
      all_goals exact hh
theorem r_nameAt {G : Nat → Nat} {d r a s N n : Nat} {h : mH} {C : mQ} {X : mX} {w : List Int} {E : List aE} (hd : 2 ≤ d) (hn : n < 48) (HR : RN r h) (H : RE r h n E) (bw : bd w) (ht : hty h a = some (21, N)) (hN : s + w.length ≤ N) (hN2 : N ≤ 60000) (hr : ro h a s w) (hC : C (some (.inl (ixR n (ixF w 0 E)))) h) :
    callG (wp G) d 102 0 0 6 [.inr (.inl (some r)), .inl (n : Int), .inr (.inl (some a)), .inl (s : Int), .inl ((s + w.length : Nat) : Int)] h C X := by
  refine cg 1 (by omega) (fun d hd => ?_)
  have hd0 : (0 < d) = True := eq_true (by omega)
  have hz := nameAt_loop (G := G) (d := d) (X := fun _ _ => False) hd hn HR H bw ht hN hN2 hr hC _ 0 rfl rfl
  (repeat' (first | with_reducible assumption | (refine And.intro ?_ ?_) | (with_reducible intro _) | (simp [wp_eq, wpE, mk_X11_nameAt, mg, mc_X11_nameAt, lget, lset, popN, cats, rcv, entL, isArr, kC_s, kC_n, st1, st2, st3, st4, st5, st6, st7, st8, st9, st10, st11, st12, st13, st14, st15, st16, st17, st18, st19, st20, st21, st22, st23, st24, st25, st26, st27, st28, st29, st30, st31, st32, st33, st34, st35, st36, st37, st38, st39, st40, st41, st42, st43, st44, st45, st46, st47, st48, st49, st50, st51, st52, st53, st54, st55, st56, st57, st58, st59, st60, st61, st62, st63, st64, st65, st66, st67, st68, st69, st70, st71, st72, st73, st74, st75, st76, st77, st78, st79, st80, st81, st82, st83, st84, st85, st86, st87, st88, st89, st90, st91, -Int.natCast_add]))) <;> (try (first | omega | exact hz))
