/-! THE EXPRESSION of the class: operands -/
/-- the Expression's cells -/
def XC (x l : Nat) (h : mH) (n : Nat) : Prop := hty h x = some (1, 8) ∧ hvr h x 0 = some l ∧ hvr h x 1 = some (x + 1) ∧ hvr h x 2 = some (x + 2) ∧ hvr h x 3 = some (x + 3) ∧ hvr h x 4 = some (x + 4) ∧ hty h (x + 1) = some (20, 50) ∧ hty h (x + 2) = some (20, 50) ∧ hty h (x + 3) = some (20, 50) ∧ hty h (x + 4) = some (21, 50) ∧ hvi h x 5 = (n : Int)
theorem num_loop {G : Nat → Nat} {d x l k n i0 : Nat} {h : mH} {C : mQ} {X : mX} {L : List Int} {sg : Int} {sd : Bool} {x4 : Option mV} (hd : 4 ≤ d) (HX : XC x l h n) (hn : n < 50) (H : LI l h L) (hsg : 0 ≤ sg ∧ sg < 256)
    (hF : ∀ j, i0 ≤ j → j < (wd L k).length → dig (lf (wd L k) j) = false → C (some (.inl 0)) h) :
    ∀ (m i : Nat) (v : Int) (x8 : Option mV), i0 ≤ i → m + i = (wd L k).length → m ≤ 6 → 0 ≤ v → v ≤ Bm m →
    (((wd L k).drop i).all dig = true → C (some (.inl 1)) (hsetI (hsetI h (x + 3) n (vlu v ((wd L k).drop i))) (x + 4) n (if sd then sg else 61))) →
    wp G d 10 100077 [some (.inr (.inl (some x))), some (.inl (k : Int)), some (.inl sg), some (.inl (b01 sd)), x4, some (.inl ((wd L k).length : Int)), some (.inl v), some (.inl (i : Int)), x8] [] h 0 0 C X := by
  have hd0 : (0 < d) = True := eq_true (by omega)
  obtain ⟨e1, e2, e3, e4, e5, e6, e7, e8, e9, e10, e11⟩ := HX
  have a1 := H.1.1
  have hb := wd_b H.2.2 k
  have hL := H.2.1.1
  have hL1 := wS_le L k
  have hL2 := wd_len L k
  intro m
  induction m with
  | zero =>
    intro i v x8 hi0 hm h6 hv0 hv hC
    have hi : i = (wd L k).length := by omega
    have hdr : (wd L k).drop i = [] := List.drop_of_length_le (by omega)
    rw [hdr] at hC
    have hz := hC rfl
    simp only [vlu] at hz
    rw [wp_hd]
    cases sd
    all_goals
      simp at hz
      (repeat' (first | with_reducible assumption | (refine And.intro ?_ ?_) | (with_reducible intro _) | (simp [wp_eq, wpE, mk_X1_readNumber, mg, mc_X1_readNumber, lget, lset, popN, cats, rcv, entL, isArr, kC_s, kC_n, st1, st2, st3, st4, st5, st6, st7, st8, st9, st10, st11, st12, st13, st14, st15, st16, st17, st18, st19, st20, st21, st22, st23, st24, st25, st26, st27, st28, st29, st30, st31, st32, st33, st34, st35, st36, st37, st38, st39, st40, st41, st42, st43, st44, st45, st46, st47, st48, st49, st50, st51, st52, st53, st54, st55, st56, st57, st58, st59, st60, st61, st62, st63, st64, st65, st66, st67, st68, st69, st70, st71, st72, st73, st74, st75, st76, st77, st78, st79, st80, st81, st82, st83, st84, st85, st86, st87, st88, st89, st90, st91, e1, e5, e6, e9, e10, e11, hi, b01, inR, hty_I, hvi_I, hvr_I, hvl_I, hsz_I, hty_R, hvi_R, hvr_R, hvl_R, hsz_R, hty_L, hvi_L, hvr_L, hvl_L, hsz_L, hty_P, hvi_P, hvr_P, hvl_P, hsz_P, hty_C, hvi_C, hvr_C, hvl_C, hsz_C]))) <;> (try (first | omega | exact hz))
  | succ m ih =>
    intro i v x8 hi0 hm h6 hv0 hv hC
    have hi : i < (wd L k).length := by omega
    rw [drop_lf hi] at hC
    have hst := Bm_step m (by omega)
    have hbm := Bm_le m (by omega)
    have cle : ∀ {C : mQ} {X : mX}, C (some (.inl (lf (wd L k) i))) h → callG (wp G) d 32 0 0 3 [.inr (.inl (some l)), .inl (k : Int), .inl (i : Int)] h C X := fun {C X} q => c_letter (by omega) H q
    have bi := lf_b hb i
    have hFi := hF i hi0 hi
    generalize hc : lf (wd L k) i = ch at *
    rw [wp_hd]
    by_cases hdg : 48 ≤ ch ∧ ch ≤ 57
    · have hz := fun x8 => ih (i + 1) (v * 10 + (ch - 48)) x8 (by omega) (by omega) (by omega) (by omega) (by omega) (fun q => by
        have := hC (by rw [List.all_cons, Bool.and_eq_true]; exact ⟨by simp [dig, hdg.1, hdg.2], q⟩)
        simpa [vlu] using this)
      (repeat' (first | with_reducible assumption | (refine cle ?_) | (refine And.intro ?_ ?_) | (with_reducible intro _) | (simp [wp_eq, wpE, mk_X1_readNumber, mg, mc_X1_readNumber, lget, lset, popN, cats, rcv, entL, isArr, kC_s, kC_n, st1, st2, st3, st4, st5, st6, st7, st8, st9, st10, st11, st12, st13, st14, st15, st16, st17, st18, st19, st20, st21, st22, st23, st24, st25, st26, st27, st28, st29, st30, st31, st32, st33, st34, st35, st36, st37, st38, st39, st40, st41, st42, st43, st44, st45, st46, st47, st48, st49, st50, st51, st52, st53, st54, st55, st56, st57, st58, st59, st60, st61, st62, st63, st64, st65, st66, st67, st68, st69, st70, st71, st72, st73, st74, st75, st76, st77, st78, st79, st80, st81, st82, st83, st84, st85, st86, st87, st88, st89, st90, st91, e1, e2, a1, hd0, hi, inR]))) <;> (try (first | omega | exact hz))
      all_goals first | omega | exact hz _
    · have hz := hFi (by simp [dig]; omega)
      (repeat' (first | with_reducible assumption | (refine cle ?_) | (refine And.intro ?_ ?_) | (with_reducible intro _) | (simp [wp_eq, wpE, mk_X1_readNumber, mg, mc_X1_readNumber, lget, lset, popN, cats, rcv, entL, isArr, kC_s, kC_n, st1, st2, st3, st4, st5, st6, st7, st8, st9, st10, st11, st12, st13, st14, st15, st16, st17, st18, st19, st20, st21, st22, st23, st24, st25, st26, st27, st28, st29, st30, st31, st32, st33, st34, st35, st36, st37, st38, st39, st40, st41, st42, st43, st44, st45, st46, st47, st48, st49, st50, st51, st52, st53, st54, st55, st56, st57, st58, st59, st60, st61, st62, st63, st64, st65, st66, st67, st68, st69, st70, st71, st72, st73, st74, st75, st76, st77, st78, st79, st80, st81, st82, st83, st84, st85, st86, st87, st88, st89, st90, st91, e1, e2, a1, hd0, hi, inR]))) <;> (try (first | omega | exact hz))
theorem Bm_0 : ∀ m, m < 7 → (0 : Int) ≤ Bm m := by decide
theorem all_no {w : List Int} {f j : Nat} (h1 : f ≤ j) (h2 : j < w.length) (h3 : dig (lf w j) = false) : ¬ (w.drop f).all dig = true := by
  intro q
  have hm : lf w j ∈ w.drop f := by
    rw [show lf w j = w[j] by simp [lf, h2]]
    exact List.mem_drop_iff_getElem.mpr ⟨j - f, by omega, by congr 1; omega⟩
  have := List.all_eq_true.mp q _ hm
  rw [h3] at this; cases this
theorem c_readNumber {G : Nat → Nat} {d x l k n : Nat} {h : mH} {C : mQ} {X : mX} {L : List Int} (hd : 5 ≤ d) (HX : XC x l h n) (hn : n < 50) (H : LI l h L)
    (hF : nbr (wd L k) = none → C (some (.inl 0)) h) (hC : ∀ v s, nbr (wd L k) = some (v, s) → C (some (.inl 1)) (hsetI (hsetI h (x + 3) n v) (x + 4) n s)) :
    callG (wp G) d 10 0 0 9 [.inr (.inl (some x)), .inl (k : Int)] h C X := by
  have HX' := HX
  obtain ⟨e1, e2, e3, e4, e5, e6, e7, e8, e9, e10, e11⟩ := HX'
  have a1 := H.1.1
  have hb := lf_b (wd_b H.2.2 k) 0
  have hL := H.2.1.1
  have hL1 := wS_le L k
  have hL2 := wd_len L k
  refine cg 4 (by omega) (fun d hd => ?_)
  have hd0 : (0 < d) = True := eq_true (by omega)
  have cle : ∀ {C : mQ} {X : mX}, C (some (.inl (lf (wd L k) 0))) h → callG (wp G) d 32 0 0 3 [.inr (.inl (some l)), .inl (k : Int), .inl 0] h C X := fun {C X} q => c_letter (k := k) (i := 0) (by omega) H q
  have cwl : ∀ {C : mQ} {X : mX}, C (some (.inl ((wd L k).length : Int))) h → callG (wp G) d 31 0 0 2 [.inr (.inl (some l)), .inl (k : Int)] h C X := fun {C X} q => c_wordLength (by omega) H q
  have hdf : ∀ f : Nat, ((wd L k).drop f).length = (wd L k).length - f := fun f => by simp
  generalize hf : (if sgd (wd L k) = true then 1 else 0) = f at *
  have hf1 : f ≤ 1 := by rw [← hf]; split <;> omega
  have hnb : nbr (wd L k) = if 1 ≤ ((wd L k).drop f).length ∧ ((wd L k).drop f).length ≤ 6 ∧ ((wd L k).drop f).all dig = true then some (vlu 0 ((wd L k).drop f), if sgd (wd L k) then lf (wd L k) 0 else 61) else none := by
    unfold nbr; rw [← hf]
  have hz0 := fun (q : 1 ≤ (wd L k).length - f ∧ (wd L k).length - f ≤ 6) => num_loop (G := G) (d := d) (C := C) (X := fun _ _ => False) (i0 := f) (sg := lf (wd L k) 0) (sd := sgd (wd L k)) (x4 := some (.inl (f : Int))) hd HX hn H hb (fun j h1 h2 h3 => hF (by rw [hnb, if_neg (fun z => all_no h1 h2 h3 z.2.2)])) ((wd L k).length - f) f 0 none (Nat.le_refl _) (by omega) (by omega) (by omega) (Bm_0 _ (by omega)) (fun z => hC _ _ (by rw [hnb, if_pos ⟨by rw [hdf]; omega, by rw [hdf]; omega, z⟩]))
  have hfail : ¬ (1 ≤ (wd L k).length - f ∧ (wd L k).length - f ≤ 6) → C (some (.inl 0)) h := fun q => hF (by rw [hnb, if_neg (fun z => q ⟨by have := z.1; rw [hdf] at this; omega, by have := z.2.1; rw [hdf] at this; omega⟩)])
  generalize hlen : (wd L k).length = len at *
  by_cases hs : sgd (wd L k) = true
  · have hs2 : lf (wd L k) 0 = 43 ∨ lf (wd L k) 0 = 45 := by simpa [sgd] using hs
    rw [if_pos hs] at hf
    subst hf
    rw [hs] at hz0
    simp only [b01, if_true] at hz0
    generalize lf (wd L k) 0 = sg at *
    by_cases hr : 1 ≤ len - 1 ∧ len - 1 ≤ 6
    · have hz := hz0 hr
      rcases hs2 with rfl | rfl
      all_goals
        (repeat' (first | with_reducible assumption | (refine cle ?_) | (refine cwl ?_) | (refine And.intro ?_ ?_) | (with_reducible intro _) | (simp [wp_eq, wpE, mk_X1_readNumber, mg, mc_X1_readNumber, lget, lset, popN, cats, rcv, entL, isArr, kC_s, kC_n, st1, st2, st3, st4, st5, st6, st7, st8, st9, st10, st11, st12, st13, st14, st15, st16, st17, st18, st19, st20, st21, st22, st23, st24, st25, st26, st27, st28, st29, st30, st31, st32, st33, st34, st35, st36, st37, st38, st39, st40, st41, st42, st43, st44, st45, st46, st47, st48, st49, st50, st51, st52, st53, st54, st55, st56, st57, st58, st59, st60, st61, st62, st63, st64, st65, st66, st67, st68, st69, st70, st71, st72, st73, st74, st75, st76, st77, st78, st79, st80, st81, st82, st83, st84, st85, st86, st87, st88, st89, st90, st91, e1, e2, a1, hd0, inR]))) <;> (try (first | omega | exact hz))
        all_goals exact hz
    · have hz := hfail hr
      rcases hs2 with rfl | rfl
      all_goals
        (repeat' (first | with_reducible assumption | (refine cle ?_) | (refine cwl ?_) | (refine And.intro ?_ ?_) | (with_reducible intro _) | (simp [wp_ne 100077, wpE, mk_X1_readNumber, mg, mc_X1_readNumber, lget, lset, popN, cats, rcv, entL, isArr, kC_s, kC_n, st1, st2, st3, st4, st5, st6, st7, st8, st9, st10, st11, st12, st13, st14, st15, st16, st17, st18, st19, st20, st21, st22, st23, st24, st25, st26, st27, st28, st29, st30, st31, st32, st33, st34, st35, st36, st37, st38, st39, st40, st41, st42, st43, st44, st45, st46, st47, st48, st49, st50, st51, st52, st53, st54, st55, st56, st57, st58, st59, st60, st61, st62, st63, st64, st65, st66, st67, st68, st69, st70, st71, st72, st73, st74, st75, st76, st77, st78, st79, st80, st81, st82, st83, st84, st85, st86, st87, st88, st89, st90, st91, e1, e2, a1, hd0, inR]))) <;> (try (first | omega | exact hz))
        all_goals (exfalso; omega)
  · have hs1 : sgd (wd L k) = false := by simpa using hs
    have hs2 : ¬ lf (wd L k) 0 = 43 ∧ ¬ lf (wd L k) 0 = 45 := by simpa [sgd] using hs
    rw [if_neg hs] at hf
    subst hf
    rw [hs1] at hz0
    simp only [b01] at hz0
    generalize lf (wd L k) 0 = sg at *
    obtain ⟨hs3, hs4⟩ := hs2
    by_cases hr : 1 ≤ len - 0 ∧ len - 0 ≤ 6
    · have hz := hz0 hr
      (repeat' (first | with_reducible assumption | (refine cle ?_) | (refine cwl ?_) | (refine And.intro ?_ ?_) | (with_reducible intro _) | (simp [wp_eq, wpE, mk_X1_readNumber, mg, mc_X1_readNumber, lget, lset, popN, cats, rcv, entL, isArr, kC_s, kC_n, st1, st2, st3, st4, st5, st6, st7, st8, st9, st10, st11, st12, st13, st14, st15, st16, st17, st18, st19, st20, st21, st22, st23, st24, st25, st26, st27, st28, st29, st30, st31, st32, st33, st34, st35, st36, st37, st38, st39, st40, st41, st42, st43, st44, st45, st46, st47, st48, st49, st50, st51, st52, st53, st54, st55, st56, st57, st58, st59, st60, st61, st62, st63, st64, st65, st66, st67, st68, st69, st70, st71, st72, st73, st74, st75, st76, st77, st78, st79, st80, st81, st82, st83, st84, st85, st86, st87, st88, st89, st90, st91, e1, e2, a1, hd0, hs3, hs4, inR]))) <;> (try (first | omega | exact hz))
      all_goals exact hz
    · have hz := hfail hr
      (repeat' (first | with_reducible assumption | (refine cle ?_) | (refine cwl ?_) | (refine And.intro ?_ ?_) | (with_reducible intro _) | (simp [wp_ne 100077, wpE, mk_X1_readNumber, mg, mc_X1_readNumber, lget, lset, popN, cats, rcv, entL, isArr, kC_s, kC_n, st1, st2, st3, st4, st5, st6, st7, st8, st9, st10, st11, st12, st13, st14, st15, st16, st17, st18, st19, st20, st21, st22, st23, st24, st25, st26, st27, st28, st29, st30, st31, st32, st33, st34, st35, st36, st37, st38, st39, st40, st41, st42, st43, st44, st45, st46, st47, st48, st49, st50, st51, st52, st53, st54, st55, st56, st57, st58, st59, st60, st61, st62, st63, st64, st65, st66, st67, st68, st69, st70, st71, st72, st73, st74, st75, st76, st77, st78, st79, st80, st81, st82, st83, st84, st85, st86, st87, st88, st89, st90, st91, e1, e2, a1, hd0, hs3, hs4, inR]))) <;> (try (first | omega | exact hz))
      all_goals (exfalso; omega)
