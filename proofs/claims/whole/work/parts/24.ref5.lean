/-! THE REFERENCE: free nodes, names put in and taken out, new places -/
def frI (x : Nat) : Int := if x = 48 then -1 else (x : Int)
theorem free_loop {G : Nat → Nat} {d r : Nat} {h : mH} {C : mQ} {X : mX} {T : aT} (HR : RN r h) (g2 : ∀ n, n < 48 → hvi h (r + 1) n = tK T n) (hp : ∀ n v, n < 48 → T n = some v → 0 ≤ nK v) (hC : C (some (.inl (frI (frF T 48)))) h) :
    ∀ i, i ≤ 48 → wp G d 110 100005 [some (.inr (.inl (some r))), some (.inl (frI (frF T (48 - i)))), some (.inl ((i : Int) - 1))] [] h 0 0 C X := by
  have R0 := HR.1; have R_kinds := rn_kinds HR
  intro i
  induction i with
  | zero =>
    intro _
    rw [wp_hd]
    (repeat' (first | with_reducible assumption | (refine And.intro ?_ ?_) | (with_reducible intro _) | (simp [wp_eq, wpE, mk_X11_freeNode, mg, mc_X11_freeNode, lget, lset, popN, cats, rcv, entL, isArr, kC_s, kC_n, st1, st2, st3, st4, st5, st6, st7, st8, st9, st10, st11, st12, st13, st14, st15, st16, st17, st18, st19, st20, st21, st22, st23, st24, st25, st26, st27, st28, st29, st30, st31, st32, st33, st34, st35, st36, st37, st38, st39, st40, st41, st42, st43, st44, st45, st46, st47, st48, st49, st50, st51, st52, st53, st54, st55, st56, st57, st58, st59, st60, st61, st62, st63, st64, st65, st66, st67, st68, st69, st70, st71, st72, st73, st74, st75, st76, st77, st78, st79, st80, st81, st82, st83, st84, st85, st86, st87, st88, st89, st90, st91, R0, R_kinds]))) <;> (try (first | omega | exact hz))
  | succ i ih =>
    intro hi
    have gk := g2 i (by omega)
    have e1 : ((i + 1 : Nat) : Int) - 1 = (i : Int) := by omega
    have e2 : (i : Int) + -1 = (i : Int) - 1 := by omega
    have hz := ih (by omega)
    have hs : 48 - i = (48 - (i + 1)) + 1 := by omega
    rw [hs] at hz
    simp only [frF] at hz
    rw [show 48 - (48 - (i + 1) + 1) = i by omega] at hz
    rw [e1, wp_hd]
    cases hT : T i with
    | none =>
      have hk : tK T i = -1 := by simp [tK, hT]
      rw [if_pos hT] at hz
      have : frI i = (i : Int) := by unfold frI; rw [if_neg (by omega)]
      rw [this] at hz
      (repeat' (first | with_reducible assumption | (refine And.intro ?_ ?_) | (with_reducible intro _) | (simp [wp_eq, wpE, mk_X11_freeNode, mg, mc_X11_freeNode, lget, lset, popN, cats, rcv, entL, isArr, kC_s, kC_n, st1, st2, st3, st4, st5, st6, st7, st8, st9, st10, st11, st12, st13, st14, st15, st16, st17, st18, st19, st20, st21, st22, st23, st24, st25, st26, st27, st28, st29, st30, st31, st32, st33, st34, st35, st36, st37, st38, st39, st40, st41, st42, st43, st44, st45, st46, st47, st48, st49, st50, st51, st52, st53, st54, st55, st56, st57, st58, st59, st60, st61, st62, st63, st64, st65, st66, st67, st68, st69, st70, st71, st72, st73, st74, st75, st76, st77, st78, st79, st80, st81, st82, st83, st84, st85, st86, st87, st88, st89, st90, st91, R0, R_kinds, gk, hk, e2, inR]))) <;> (try (first | omega | exact hz))
    | some v =>
      have hk : tK T i = nK v := by simp [tK, hT]
      have hk2 : ¬ nK v < 0 := by have := hp i v (by omega) hT; omega
      rw [if_neg (by rw [hT]; simp), show 48 - (i + 1) = 47 - i by omega] at hz
      (repeat' (first | with_reducible assumption | (refine And.intro ?_ ?_) | (with_reducible intro _) | (simp [wp_eq, wpE, mk_X11_freeNode, mg, mc_X11_freeNode, lget, lset, popN, cats, rcv, entL, isArr, kC_s, kC_n, st1, st2, st3, st4, st5, st6, st7, st8, st9, st10, st11, st12, st13, st14, st15, st16, st17, st18, st19, st20, st21, st22, st23, st24, st25, st26, st27, st28, st29, st30, st31, st32, st33, st34, st35, st36, st37, st38, st39, st40, st41, st42, st43, st44, st45, st46, st47, st48, st49, st50, st51, st52, st53, st54, st55, st56, st57, st58, st59, st60, st61, st62, st63, st64, st65, st66, st67, st68, st69, st70, st71, st72, st73, st74, st75, st76, st77, st78, st79, st80, st81, st82, st83, st84, st85, st86, st87, st88, st89, st90, st91, R0, R_kinds, gk, hk, hk2, e2, inR]))) <;> (try (first | omega | exact hz))
theorem r_freeNode {G : Nat → Nat} {d r : Nat} {h : mH} {C : mQ} {X : mX} {T : aT} (HR : RN r h) (g2 : ∀ n, n < 48 → hvi h (r + 1) n = tK T n) (hp : ∀ n v, n < 48 → T n = some v → 0 ≤ nK v) (hC : C (some (.inl (frI (frF T 48)))) h) :
    callG (wp G) d 110 0 0 3 [.inr (.inl (some r))] h C X := by
  have hz := free_loop (G := G) (d := d - 1) (X := fun _ _ => False) HR g2 hp hC 48 (by omega)
  simp [frF, frI] at hz
  refine ⟨C, fun _ _ => False, ?_, fun _ _ q => q, fun _ _ q => q.elim⟩
  (repeat' (first | with_reducible assumption | (refine And.intro ?_ ?_) | (with_reducible intro _) | (simp [wp_eq, wpE, mk_X11_freeNode, mg, mc_X11_freeNode, lget, lset, popN, cats, rcv, entL, isArr, kC_s, kC_n, st1, st2, st3, st4, st5, st6, st7, st8, st9, st10, st11, st12, st13, st14, st15, st16, st17, st18, st19, st20, st21, st22, st23, st24, st25, st26, st27, st28, st29, st30, st31, st32, st33, st34, st35, st36, st37, st38, st39, st40, st41, st42, st43, st44, st45, st46, st47, st48, st49, st50, st51, st52, st53, st54, st55, st56, st57, st58, st59, st60, st61, st62, st63, st64, st65, st66, st67, st68, st69, st70, st71, st72, st73, st74, st75, st76, st77, st78, st79, st80, st81, st82, st83, st84, st85, st86, st87, st88, st89, st90, st91]))) <;> (try (first | omega | exact hz))
def RC (r : Nat) (h : mH) : Prop := ∀ j, 0 ≤ hvi h (r + 12) j ∧ hvi h (r + 12) j < 65536
theorem addN_loop {G : Nat → Nat} {d r o e : Nat} {h0 : mH} {C : mQ} {X : mX} {s : List Int} {x1 x5 : Option mV} (he : e < 576) (bs : bd s) (hs : s.length ≤ 14) (hN : o + s.length ≤ 100) (hC : ∀ h', chJ (sR r [12]) h0 h' → RC r h' → ro h' (r + 12) (14 * e) s → (∀ j, j < 14 * e ∨ 14 * e + 14 ≤ j → hvi h' (r + 12) j = hvi h0 (r + 12) j) → C none h') :
    ∀ (m i : Nat) (h : mH), m + i = s.length → RN r h → RC r h → ro h (r + 13) o s → chJ (sR r [12]) h0 h → (∀ k, k < i → hvi h (r + 12) (14 * e + k) = lf s k) → (∀ j, j < 14 * e ∨ 14 * e + 14 ≤ j → hvi h (r + 12) j = hvi h0 (r + 12) j) →
    wp G d 103 100046 [some (.inr (.inl (some r))), x1, some (.inr (.inl (some (r + 13)))), some (.inl (o : Int)), some (.inl ((o + s.length : Nat) : Int)), x5, some (.inl (e : Int)), some (.inl ((o + i : Nat) : Int))] [] h 0 0 C X := by
  intro m
  induction m with
  | zero =>
    intro i h hm HR hc hr hq hp hx
    have R0 := HR.1; have R_many := rn_many HR; have R_targets := rn_targets HR; have R_nameSizes := rn_nameSizes HR; have R_names := rn_names HR
    have hz := hC h hq hc (fun k hk => hp k (by omega)) hx
    have hi : i = s.length := by omega
    rw [wp_hd]
    (repeat' (first | with_reducible assumption | (refine And.intro ?_ ?_) | (with_reducible intro _) | (simp [wp_eq, wpE, mk_X11_addName, mg, mc_X11_addName, lget, lset, popN, cats, rcv, entL, isArr, kC_s, kC_n, st1, st2, st3, st4, st5, st6, st7, st8, st9, st10, st11, st12, st13, st14, st15, st16, st17, st18, st19, st20, st21, st22, st23, st24, st25, st26, st27, st28, st29, st30, st31, st32, st33, st34, st35, st36, st37, st38, st39, st40, st41, st42, st43, st44, st45, st46, st47, st48, st49, st50, st51, st52, st53, st54, st55, st56, st57, st58, st59, st60, st61, st62, st63, st64, st65, st66, st67, st68, st69, st70, st71, st72, st73, st74, st75, st76, st77, st78, st79, st80, st81, st82, st83, st84, st85, st86, st87, st88, st89, st90, st91, R0, R_many, R_targets, R_nameSizes, R_names, -Int.natCast_add, hi]))) <;> (try (first | omega | exact hz))
  | succ m ih =>
    intro i h hm HR hc hr hq hp hx
    have R0 := HR.1; have R_many := rn_many HR; have R_targets := rn_targets HR; have R_nameSizes := rn_nameSizes HR; have R_names := rn_names HR
    have R_line := rn_line HR
    have c := hr i (by omega)
    have bi := lf_b bs i
    have hq1 : chJ (sR r [12]) h (hsetI h (r + 12) (14 * e + i) (lf s i)) := chJ_set (by simp [sR])
    have hz := ih (i + 1) _ (by omega) (RN_ch hq1 HR) (fun j => by simp only [hvi_I]; split; omega; exact hc j) (fun k hk => by simp [hty_I, hvi_I, hvr_I, hvl_I, hsz_I, hty_R, hvi_R, hvr_R, hvl_R, hsz_R, hty_L, hvi_L, hvr_L, hvl_L, hsz_L, hty_P, hvi_P, hvr_P, hvl_P, hsz_P, hty_C, hvi_C, hvr_C, hvl_C, hsz_C]; exact hr k hk) (chJ_trans hq hq1) (fun k hk => by
      by_cases hki : k = i
      · simp [hty_I, hvi_I, hvr_I, hvl_I, hsz_I, hty_R, hvi_R, hvr_R, hvl_R, hsz_R, hty_L, hvi_L, hvr_L, hvl_L, hsz_L, hty_P, hvi_P, hvr_P, hvl_P, hsz_P, hty_C, hvi_C, hvr_C, hvl_C, hsz_C, hki]
      · simp [hty_I, hvi_I, hvr_I, hvl_I, hsz_I, hty_R, hvi_R, hvr_R, hvl_R, hsz_R, hty_L, hvi_L, hvr_L, hvl_L, hsz_L, hty_P, hvi_P, hvr_P, hvl_P, hsz_P, hty_C, hvi_C, hvr_C, hvl_C, hsz_C, hki]; exact hp k (by omega)) (fun j hj => by simp only [hvi_I]; rw [if_neg (by omega)]; exact hx j hj)
    have hi : i < s.length := by omega
    have e1 : ((o + i : Nat) : Int).toNat = o + i := by omega
    have e2 : (14 : Int) * (e : Int) + ((o + i : Nat) : Int) - (o : Int) = ((14 * e + i : Nat) : Int) := by omega
    have e3 : ((14 * e + i : Nat) : Int).toNat = 14 * e + i := by omega
    have e4 : ((o + i : Nat) : Int) + 1 = ((o + (i + 1) : Nat) : Int) := by omega
    rw [wp_hd]
    (repeat' (first | with_reducible assumption | (refine And.intro ?_ ?_) | (with_reducible intro _) | (simp [wp_eq, wpE, mk_X11_addName, mg, mc_X11_addName, lget, lset, popN, cats, rcv, entL, isArr, kC_s, kC_n, st1, st2, st3, st4, st5, st6, st7, st8, st9, st10, st11, st12, st13, st14, st15, st16, st17, st18, st19, st20, st21, st22, st23, st24, st25, st26, st27, st28, st29, st30, st31, st32, st33, st34, st35, st36, st37, st38, st39, st40, st41, st42, st43, st44, st45, st46, st47, st48, st49, st50, st51, st52, st53, st54, st55, st56, st57, st58, st59, st60, st61, st62, st63, st64, st65, st66, st67, st68, st69, st70, st71, st72, st73, st74, st75, st76, st77, st78, st79, st80, st81, st82, st83, st84, st85, st86, st87, st88, st89, st90, st91, R0, R_many, R_targets, R_nameSizes, R_names, -Int.natCast_add, -Int.natCast_mul, R_line, hi, e1, e2, e3, e4, c, inR]))) <;> (try (first | omega | exact hz))
theorem r_addName {G : Nat → Nat} {d r o n m : Nat} {h : mH} {C : mQ} {X : mX} {s : List Int} {E : List aE} (HR : RN r h) (hc : RC r h) (hn : n < 48) (hm : m < 48) (hE : E.length < 12) (bs : bd s) (hs : s.length ≤ 14) (hN : o + s.length ≤ 100) (hr : ro h (r + 13) o s) (H : RE r h n E)
    (hC : ∀ h', chJ (sR r [9, 10, 11, 12]) h h' → RC r h' → RE r h' n (E ++ [(s, m)]) → (∀ n' E', ¬ n' = n → RE r h n' E' → RE r h' n' E') → C none h') :
    callG (wp G) d 103 0 0 8 [.inr (.inl (some r)), .inl (n : Int), .inr (.inl (some (r + 13))), .inl (o : Int), .inl ((o + s.length : Nat) : Int), .inl (m : Int)] h C X := by
  have R0 := HR.1; have R_many := rn_many HR; have R_targets := rn_targets HR; have R_nameSizes := rn_nameSizes HR; have R_names := rn_names HR
  obtain ⟨f1, f2, f3⟩ := H
  obtain ⟨e, he⟩ : ∃ e, e = 12 * n + E.length := ⟨_, rfl⟩
  have e1 : (12 : Int) * (n : Int) + (E.length : Int) = (e : Int) := by omega
  have e2 : ((o + s.length : Nat) : Int) - (o : Int) = (s.length : Int) := by omega
  have hq : chJ (sR r [9, 10, 11, 12]) h (hsetI (hsetI (hsetI h (r + 9) n ((E.length : Int) + 1)) (r + 10) e (m : Int)) (r + 11) e (s.length : Int)) := chJ_trans (chJ_trans (chJ_set (by simp [sR])) (chJ_set (by simp [sR]))) (chJ_set (by simp [sR]))
  have hz := addN_loop (G := G) (d := d - 1) (r := r) (o := o) (e := e) (C := C) (X := fun _ _ => False) (x1 := some (.inl (n : Int))) (x5 := some (.inl (m : Int))) (by omega) bs hs hN (fun h' q1 q2 q3 q4 => hC h' (chJ_trans hq (chJ_sub q1 (by simp))) q2 ?_ ?_) s.length 0 _ (by omega) (RN_ch hq HR) (fun j => by simp [hty_I, hvi_I, hvr_I, hvl_I, hsz_I, hty_R, hvi_R, hvr_R, hvl_R, hsz_R, hty_L, hvi_L, hvr_L, hvl_L, hsz_L, hty_P, hvi_P, hvr_P, hvl_P, hsz_P, hty_C, hvi_C, hvr_C, hvl_C, hsz_C]; exact hc j) (fun k hk => by simp [hty_I, hvi_I, hvr_I, hvl_I, hsz_I, hty_R, hvi_R, hvr_R, hvl_R, hsz_R, hty_L, hvi_L, hvr_L, hvl_L, hsz_L, hty_P, hvi_P, hvr_P, hvl_P, hsz_P, hty_C, hvi_C, hvr_C, hvl_C, hsz_C]; exact hr k hk) chJ_refl (fun k hk => by omega) (fun j _ => rfl)
  · refine ⟨C, fun _ _ => False, ?_, fun _ _ q => q, fun _ _ q => q.elim⟩
    simp only [Nat.add_zero] at hz
    (repeat' (first | with_reducible assumption | (refine And.intro ?_ ?_) | (with_reducible intro _) | (simp [wp_eq, wpE, mk_X11_addName, mg, mc_X11_addName, lget, lset, popN, cats, rcv, entL, isArr, kC_s, kC_n, st1, st2, st3, st4, st5, st6, st7, st8, st9, st10, st11, st12, st13, st14, st15, st16, st17, st18, st19, st20, st21, st22, st23, st24, st25, st26, st27, st28, st29, st30, st31, st32, st33, st34, st35, st36, st37, st38, st39, st40, st41, st42, st43, st44, st45, st46, st47, st48, st49, st50, st51, st52, st53, st54, st55, st56, st57, st58, st59, st60, st61, st62, st63, st64, st65, st66, st67, st68, st69, st70, st71, st72, st73, st74, st75, st76, st77, st78, st79, st80, st81, st82, st83, st84, st85, st86, st87, st88, st89, st90, st91, R0, R_many, R_targets, R_nameSizes, R_names, -Int.natCast_add, f1, e1, e2, hty_I, hvi_I, hvr_I, hvl_I, hsz_I, hty_R, hvi_R, hvr_R, hvl_R, hsz_R, hty_L, hvi_L, hvr_L, hvl_L, hsz_L, hty_P, hvi_P, hvr_P, hvl_P, hsz_P, hty_C, hvi_C, hvr_C, hvl_C, hsz_C, inR]))) <;> (try (first | omega | exact hz))
  · refine ⟨by rw [chJ_row q1 (by omega) (by simp)]; simp [hty_I, hvi_I, hvr_I, hvl_I, hsz_I, hty_R, hvi_R, hvr_R, hvl_R, hsz_R, hty_L, hvi_L, hvr_L, hvl_L, hsz_L, hty_P, hvi_P, hvr_P, hvl_P, hsz_P, hty_C, hvi_C, hvr_C, hvl_C, hsz_C], by simp; omega, fun k p hk => ?_⟩
    by_cases hkl : k < E.length
    · rw [List.getElem?_append_left hkl] at hk
      obtain ⟨g1, g2, g3, g4⟩ := f3 k p hk
      refine ⟨?_, ?_, fun i hi => ?_, g4⟩
      · rw [chJ_row q1 (by omega) (by simp)]; simp [hty_I, hvi_I, hvr_I, hvl_I, hsz_I, hty_R, hvi_R, hvr_R, hvl_R, hsz_R, hty_L, hvi_L, hvr_L, hvl_L, hsz_L, hty_P, hvi_P, hvr_P, hvl_P, hsz_P, hty_C, hvi_C, hvr_C, hvl_C, hsz_C, show ¬ 12 * n + k = e by omega, g1]
      · rw [chJ_row q1 (by omega) (by simp)]; simp [hty_I, hvi_I, hvr_I, hvl_I, hsz_I, hty_R, hvi_R, hvr_R, hvl_R, hsz_R, hty_L, hvi_L, hvr_L, hvl_L, hsz_L, hty_P, hvi_P, hvr_P, hvl_P, hsz_P, hty_C, hvi_C, hvr_C, hvl_C, hsz_C, show ¬ 12 * n + k = e by omega, g2]
      · rw [q4 _ (by omega)]; simp [hty_I, hvi_I, hvr_I, hvl_I, hsz_I, hty_R, hvi_R, hvr_R, hvl_R, hsz_R, hty_L, hvi_L, hvr_L, hvl_L, hsz_L, hty_P, hvi_P, hvr_P, hvl_P, hsz_P, hty_C, hvi_C, hvr_C, hvl_C, hsz_C]; exact g3 i hi
    · rw [List.getElem?_append_right (by omega)] at hk
      have hk0 : k - E.length = 0 := by
        cases hn : k - E.length with
        | zero => rfl
        | succ n => rw [hn] at hk; simp at hk
      rw [hk0] at hk
      simp at hk
      have hke : 12 * n + k = e := by omega
      subst hk
      rw [hke]
      exact ⟨by rw [chJ_row q1 (by omega) (by simp)]; simp [hty_I, hvi_I, hvr_I, hvl_I, hsz_I, hty_R, hvi_R, hvr_R, hvl_R, hsz_R, hty_L, hvi_L, hvr_L, hvl_L, hsz_L, hty_P, hvi_P, hvr_P, hvl_P, hsz_P, hty_C, hvi_C, hvr_C, hvl_C, hsz_C], by rw [chJ_row q1 (by omega) (by simp)]; simp [hty_I, hvi_I, hvr_I, hvl_I, hsz_I, hty_R, hvi_R, hvr_R, hvl_R, hsz_R, hty_L, hvi_L, hvr_L, hvl_L, hsz_L, hty_P, hvi_P, hvr_P, hvl_P, hsz_P, hty_C, hvi_C, hvr_C, hvl_C, hsz_C], q3, bs, hs, hm⟩
  · intro n' E' hne HE
    obtain ⟨f1', f2', f3'⟩ := HE
    refine ⟨by rw [chJ_row q1 (by omega) (by simp)]; simp [hty_I, hvi_I, hvr_I, hvl_I, hsz_I, hty_R, hvi_R, hvr_R, hvl_R, hsz_R, hty_L, hvi_L, hvr_L, hvl_L, hsz_L, hty_P, hvi_P, hvr_P, hvl_P, hsz_P, hty_C, hvi_C, hvr_C, hvl_C, hsz_C, hne, f1'], f2', fun k p hk => ?_⟩
    have hkl := (List.getElem?_eq_some_iff.mp hk).1
    obtain ⟨g1, g2, g3, g4⟩ := f3' k p hk
    refine ⟨?_, ?_, fun i hi => ?_, g4⟩
    · rw [chJ_row q1 (by omega) (by simp)]; simp [hty_I, hvi_I, hvr_I, hvl_I, hsz_I, hty_R, hvi_R, hvr_R, hvl_R, hsz_R, hty_L, hvi_L, hvr_L, hvl_L, hsz_L, hty_P, hvi_P, hvr_P, hvl_P, hsz_P, hty_C, hvi_C, hvr_C, hvl_C, hsz_C, show ¬ 12 * n' + k = e by omega, g1]
    · rw [chJ_row q1 (by omega) (by simp)]; simp [hty_I, hvi_I, hvr_I, hvl_I, hsz_I, hty_R, hvi_R, hvr_R, hvl_R, hsz_R, hty_L, hvi_L, hvr_L, hvl_L, hsz_L, hty_P, hvi_P, hvr_P, hvl_P, hsz_P, hty_C, hvi_C, hvr_C, hvl_C, hsz_C, show ¬ 12 * n' + k = e by omega, g2]
    · rw [q4 _ (by omega)]; simp [hty_I, hvi_I, hvr_I, hvl_I, hsz_I, hty_R, hvi_R, hvr_R, hvl_R, hsz_R, hty_L, hvi_L, hvr_L, hvl_L, hsz_L, hty_P, hvi_P, hvr_P, hvl_P, hsz_P, hty_C, hvi_C, hvr_C, hvl_C, hsz_C]; exact g3 i hi
theorem remN_loop {G : Nat → Nat} {d r e l : Nat} {h0 : mH} {C : mQ} {X : mX} {x2 : Option mV} (he : e < 576) (hl : l < 576) (hC : ∀ h', chJ (sR r [12]) h0 h' → RC r h' → (∀ i, i < 14 → hvi h' (r + 12) (14 * e + i) = hvi h0 (r + 12) (14 * l + i)) → (∀ j, j < 14 * e ∨ 14 * e + 14 ≤ j → hvi h' (r + 12) j = hvi h0 (r + 12) j) → C none h') :
    ∀ (m i : Nat) (h : mH), m + i = 14 → RN r h → RC r h → chJ (sR r [12]) h0 h → (∀ k, k < i → hvi h (r + 12) (14 * e + k) = hvi h0 (r + 12) (14 * l + k)) → (∀ j, j < 14 * e ∨ 14 * e + i ≤ j → hvi h (r + 12) j = hvi h0 (r + 12) j) →
    wp G d 104 100056 [some (.inr (.inl (some r))), some (.inl (e : Int)), x2, some (.inl (l : Int)), some (.inl (i : Int))] [] h 0 0 C X := by
  intro m
  induction m with
  | zero =>
    intro i h hm HR hc hq hp hx
    have R0 := HR.1; have R_many := rn_many HR; have R_targets := rn_targets HR; have R_nameSizes := rn_nameSizes HR; have R_names := rn_names HR
    have hi : i = 14 := by omega
    subst hi
    have hz := hC h hq hc hp hx
    rw [wp_hd]
    (repeat' (first | with_reducible assumption | (refine And.intro ?_ ?_) | (with_reducible intro _) | (simp [wp_eq, wpE, mk_X11_removeName, mg, mc_X11_removeName, lget, lset, popN, cats, rcv, entL, isArr, kC_s, kC_n, st1, st2, st3, st4, st5, st6, st7, st8, st9, st10, st11, st12, st13, st14, st15, st16, st17, st18, st19, st20, st21, st22, st23, st24, st25, st26, st27, st28, st29, st30, st31, st32, st33, st34, st35, st36, st37, st38, st39, st40, st41, st42, st43, st44, st45, st46, st47, st48, st49, st50, st51, st52, st53, st54, st55, st56, st57, st58, st59, st60, st61, st62, st63, st64, st65, st66, st67, st68, st69, st70, st71, st72, st73, st74, st75, st76, st77, st78, st79, st80, st81, st82, st83, st84, st85, st86, st87, st88, st89, st90, st91, R0, R_many, R_targets, R_nameSizes, R_names]))) <;> (try (first | omega | exact hz))
  | succ m ih =>
    intro i h hm HR hc hq hp hx
    have R0 := HR.1; have R_many := rn_many HR; have R_targets := rn_targets HR; have R_nameSizes := rn_nameSizes HR; have R_names := rn_names HR
    have c : hvi h (r + 12) (14 * l + i) = hvi h0 (r + 12) (14 * l + i) := by
      by_cases hle : l = e
      · subst hle; exact hx _ (by omega)
      · exact hx _ (by omega)
    have ci := hc (14 * l + i)
    have hq1 : chJ (sR r [12]) h (hsetI h (r + 12) (14 * e + i) (hvi h (r + 12) (14 * l + i))) := chJ_set (by simp [sR])
    have hz := ih (i + 1) _ (by omega) (RN_ch hq1 HR) (fun j => by simp only [hvi_I]; split; exact ci; exact hc j) (chJ_trans hq hq1) (fun k hk => by
      by_cases hki : k = i
      · simp [hty_I, hvi_I, hvr_I, hvl_I, hsz_I, hty_R, hvi_R, hvr_R, hvl_R, hsz_R, hty_L, hvi_L, hvr_L, hvl_L, hsz_L, hty_P, hvi_P, hvr_P, hvl_P, hsz_P, hty_C, hvi_C, hvr_C, hvl_C, hsz_C, hki, c]
      · simp [hty_I, hvi_I, hvr_I, hvl_I, hsz_I, hty_R, hvi_R, hvr_R, hvl_R, hsz_R, hty_L, hvi_L, hvr_L, hvl_L, hsz_L, hty_P, hvi_P, hvr_P, hvl_P, hsz_P, hty_C, hvi_C, hvr_C, hvl_C, hsz_C, hki]; exact hp k (by omega)) (fun j hj => by simp only [hvi_I]; rw [if_neg (by omega)]; exact hx j (by omega))
    have hi : i < 14 := by omega
    have e2 : (14 : Int) * (e : Int) + (i : Int) = ((14 * e + i : Nat) : Int) := by omega
    have e3 : (14 : Int) * (l : Int) + (i : Int) = ((14 * l + i : Nat) : Int) := by omega
    have e4 : ((14 * e + i : Nat) : Int).toNat = 14 * e + i := by omega
    have e5 : ((14 * l + i : Nat) : Int).toNat = 14 * l + i := by omega
    rw [wp_hd]
    (repeat' (first | with_reducible assumption | (refine And.intro ?_ ?_) | (with_reducible intro _) | (simp [wp_eq, wpE, mk_X11_removeName, mg, mc_X11_removeName, lget, lset, popN, cats, rcv, entL, isArr, kC_s, kC_n, st1, st2, st3, st4, st5, st6, st7, st8, st9, st10, st11, st12, st13, st14, st15, st16, st17, st18, st19, st20, st21, st22, st23, st24, st25, st26, st27, st28, st29, st30, st31, st32, st33, st34, st35, st36, st37, st38, st39, st40, st41, st42, st43, st44, st45, st46, st47, st48, st49, st50, st51, st52, st53, st54, st55, st56, st57, st58, st59, st60, st61, st62, st63, st64, st65, st66, st67, st68, st69, st70, st71, st72, st73, st74, st75, st76, st77, st78, st79, st80, st81, st82, st83, st84, st85, st86, st87, st88, st89, st90, st91, R0, R_many, R_targets, R_nameSizes, R_names, -Int.natCast_add, -Int.natCast_mul, hi, e2, e3, e4, e5, inR]))) <;> (try (first | omega | exact hz))
/-- the last put in the place of the one taken away -/
def swr (E : List aE) (k : Nat) : List aE := (E.set k (E.getLast?.getD ([], 0))).dropLast
theorem swr_perm {E : List aE} {k : Nat} (hk : k < E.length) : (swr E k).Perm (E.eraseIdx k) := by
  rcases List.eq_nil_or_concat E with h | ⟨A, x, h⟩
  · rw [h] at hk; simp at hk
  · subst h
    simp at hk
    unfold swr
    simp
    by_cases hkA : k < A.length
    · rw [List.set_append_left _ _ hkA, List.dropLast_concat, List.eraseIdx_append_of_lt_length hkA]
      have h1 : A.set k x = A.take k ++ x :: A.drop (k + 1) := List.set_eq_take_append_cons_drop.trans (if_pos hkA)
      have h2 : A.eraseIdx k = A.take k ++ A.drop (k + 1) := List.eraseIdx_eq_take_drop_succ ..
      rw [h1, h2]
      refine List.perm_middle.trans ?_
      exact (List.perm_append_singleton _ _).symm
    · have : k = A.length := by omega
      subst this
      simp [List.eraseIdx_append_of_length_le]
theorem swr_get {E : List aE} {k j : Nat} (hk : k < E.length) (hj : j + 1 < E.length) : (swr E k)[j]? = if j = k then E[E.length - 1]? else E[j]? := by
  unfold swr
  rw [List.getElem?_dropLast]
  simp only [List.length_set]
  rw [if_pos (by omega), List.getElem?_set]
  have hl : E.getLast? = some (E[E.length - 1]'(by omega)) := by rw [List.getLast?_eq_getElem?, List.getElem?_eq_getElem (by omega)]
  by_cases he : k = j
  · rw [if_pos he, if_pos he.symm, if_pos (by omega), hl, List.getElem?_eq_getElem (by omega)]; rfl
  · rw [if_neg he, if_neg (fun q => he q.symm)]
theorem swr_len {E : List aE} {k : Nat} : (swr E k).length = E.length - 1 := by simp [swr]
theorem r_removeName {G : Nat → Nat} {d r n k : Nat} {h : mH} {C : mQ} {X : mX} {E : List aE} (HR : RN r h) (hc : RC r h) (hn : n < 48) (hk : k < E.length) (H : RE r h n E)
    (hC : ∀ h', chJ (sR r [9, 10, 11, 12]) h h' → RC r h' → RE r h' n (swr E k) → (∀ n' E', ¬ n' = n → RE r h n' E' → RE r h' n' E') → C none h') :
    callG (wp G) d 104 0 0 5 [.inr (.inl (some r)), .inl ((12 * n + k : Nat) : Int)] h C X := by
  have R0 := HR.1; have R_many := rn_many HR; have R_targets := rn_targets HR; have R_nameSizes := rn_nameSizes HR; have R_names := rn_names HR
  obtain ⟨f1, f2, f3⟩ := H
  obtain ⟨e, he⟩ : ∃ e, e = 12 * n + k := ⟨_, rfl⟩
  obtain ⟨l, hl⟩ : ∃ l, l = 12 * n + (E.length - 1) := ⟨_, rfl⟩
  rw [← he]
  have e0 : (e : Int) / 12 = (n : Int) := by omega
  have e1 : (12 : Int) * (n : Int) + (E.length : Int) - 1 = (l : Int) := by omega
  have hpl : E[E.length - 1]? = some (E[E.length - 1]'(by omega)) := List.getElem?_eq_getElem (by omega)
  obtain ⟨l1, l2, l3, l4⟩ := f3 _ _ hpl
  rw [← hl] at l1 l2 l3
  have hq : chJ (sR r [9, 10, 11, 12]) h (hsetI (hsetI (hsetI h (r + 9) n ((E.length : Int) - 1)) (r + 10) e (hvi h (r + 10) l)) (r + 11) e (hvi h (r + 11) l)) := chJ_trans (chJ_trans (chJ_set (by simp [sR])) (chJ_set (by simp [sR]))) (chJ_set (by simp [sR]))
  have hz := remN_loop (G := G) (d := d - 1) (r := r) (e := e) (l := l) (C := C) (X := fun _ _ => False) (x2 := some (.inl (n : Int))) (by omega) (by omega) (fun h' q1 q2 q3 q4 => hC h' (chJ_trans hq (chJ_sub q1 (by simp))) q2 ?_ ?_) 14 0 _ (by omega) (RN_ch hq HR) (fun j => by simp [hty_I, hvi_I, hvr_I, hvl_I, hsz_I, hty_R, hvi_R, hvr_R, hvl_R, hsz_R, hty_L, hvi_L, hvr_L, hvl_L, hsz_L, hty_P, hvi_P, hvr_P, hvl_P, hsz_P, hty_C, hvi_C, hvr_C, hvl_C, hsz_C]; exact hc j) chJ_refl (fun k hk => by omega) (fun j _ => rfl)
  · refine ⟨C, fun _ _ => False, ?_, fun _ _ q => q, fun _ _ q => q.elim⟩
    (repeat' (first | with_reducible assumption | (refine And.intro ?_ ?_) | (with_reducible intro _) | (simp [wp_eq, wpE, mk_X11_removeName, mg, mc_X11_removeName, lget, lset, popN, cats, rcv, entL, isArr, kC_s, kC_n, st1, st2, st3, st4, st5, st6, st7, st8, st9, st10, st11, st12, st13, st14, st15, st16, st17, st18, st19, st20, st21, st22, st23, st24, st25, st26, st27, st28, st29, st30, st31, st32, st33, st34, st35, st36, st37, st38, st39, st40, st41, st42, st43, st44, st45, st46, st47, st48, st49, st50, st51, st52, st53, st54, st55, st56, st57, st58, st59, st60, st61, st62, st63, st64, st65, st66, st67, st68, st69, st70, st71, st72, st73, st74, st75, st76, st77, st78, st79, st80, st81, st82, st83, st84, st85, st86, st87, st88, st89, st90, st91, R0, R_many, R_targets, R_nameSizes, R_names, f1, e0, e1, hty_I, hvi_I, hvr_I, hvl_I, hsz_I, hty_R, hvi_R, hvr_R, hvl_R, hsz_R, hty_L, hvi_L, hvr_L, hvl_L, hsz_L, hty_P, hvi_P, hvr_P, hvl_P, hsz_P, hty_C, hvi_C, hvr_C, hvl_C, hsz_C, inR]))) <;> (try (first | omega | exact hz))
  · refine ⟨by rw [chJ_row q1 (by omega) (by simp), swr_len]; simp [hty_I, hvi_I, hvr_I, hvl_I, hsz_I, hty_R, hvi_R, hvr_R, hvl_R, hsz_R, hty_L, hvi_L, hvr_L, hvl_L, hsz_L, hty_P, hvi_P, hvr_P, hvl_P, hsz_P, hty_C, hvi_C, hvr_C, hvl_C, hsz_C]; omega, by rw [swr_len]; omega, fun j p hj => ?_⟩
    have hjl := (List.getElem?_eq_some_iff.mp hj).1
    rw [swr_len] at hjl
    rw [swr_get hk (by omega)] at hj
    by_cases hjk : j = k
    · rw [if_pos hjk, hpl] at hj
      cases hj
      have hje : 12 * n + j = e := by omega
      rw [hje]
      exact ⟨by rw [chJ_row q1 (by omega) (by simp)]; simp [hty_I, hvi_I, hvr_I, hvl_I, hsz_I, hty_R, hvi_R, hvr_R, hvl_R, hsz_R, hty_L, hvi_L, hvr_L, hvl_L, hsz_L, hty_P, hvi_P, hvr_P, hvl_P, hsz_P, hty_C, hvi_C, hvr_C, hvl_C, hsz_C, l1], by rw [chJ_row q1 (by omega) (by simp)]; simp [hty_I, hvi_I, hvr_I, hvl_I, hsz_I, hty_R, hvi_R, hvr_R, hvl_R, hsz_R, hty_L, hvi_L, hvr_L, hvl_L, hsz_L, hty_P, hvi_P, hvr_P, hvl_P, hsz_P, hty_C, hvi_C, hvr_C, hvl_C, hsz_C, l2], fun i hi => by rw [q3 i (by omega)]; simp [hty_I, hvi_I, hvr_I, hvl_I, hsz_I, hty_R, hvi_R, hvr_R, hvl_R, hsz_R, hty_L, hvi_L, hvr_L, hvl_L, hsz_L, hty_P, hvi_P, hvr_P, hvl_P, hsz_P, hty_C, hvi_C, hvr_C, hvl_C, hsz_C]; exact l3 i hi, l4⟩
    · rw [if_neg hjk] at hj
      obtain ⟨g1, g2, g3, g4⟩ := f3 j p hj
      refine ⟨?_, ?_, fun i hi => ?_, g4⟩
      · rw [chJ_row q1 (by omega) (by simp)]; simp [hty_I, hvi_I, hvr_I, hvl_I, hsz_I, hty_R, hvi_R, hvr_R, hvl_R, hsz_R, hty_L, hvi_L, hvr_L, hvl_L, hsz_L, hty_P, hvi_P, hvr_P, hvl_P, hsz_P, hty_C, hvi_C, hvr_C, hvl_C, hsz_C, show ¬ 12 * n + j = e by omega, g1]
      · rw [chJ_row q1 (by omega) (by simp)]; simp [hty_I, hvi_I, hvr_I, hvl_I, hsz_I, hty_R, hvi_R, hvr_R, hvl_R, hsz_R, hty_L, hvi_L, hvr_L, hvl_L, hsz_L, hty_P, hvi_P, hvr_P, hvl_P, hsz_P, hty_C, hvi_C, hvr_C, hvl_C, hsz_C, show ¬ 12 * n + j = e by omega, g2]
      · rw [q4 _ (by omega)]; simp [hty_I, hvi_I, hvr_I, hvl_I, hsz_I, hty_R, hvi_R, hvr_R, hvl_R, hsz_R, hty_L, hvi_L, hvr_L, hvl_L, hsz_L, hty_P, hvi_P, hvr_P, hvl_P, hsz_P, hty_C, hvi_C, hvr_C, hvl_C, hsz_C]; exact g3 i hi
  · intro n' E' hne HE
    obtain ⟨f1', f2', f3'⟩ := HE
    refine ⟨by rw [chJ_row q1 (by omega) (by simp)]; simp [hty_I, hvi_I, hvr_I, hvl_I, hsz_I, hty_R, hvi_R, hvr_R, hvl_R, hsz_R, hty_L, hvi_L, hvr_L, hvl_L, hsz_L, hty_P, hvi_P, hvr_P, hvl_P, hsz_P, hty_C, hvi_C, hvr_C, hvl_C, hsz_C, hne, f1'], f2', fun k p hk => ?_⟩
    have hkl := (List.getElem?_eq_some_iff.mp hk).1
    obtain ⟨g1, g2, g3, g4⟩ := f3' k p hk
    refine ⟨?_, ?_, fun i hi => ?_, g4⟩
    · rw [chJ_row q1 (by omega) (by simp)]; simp [hty_I, hvi_I, hvr_I, hvl_I, hsz_I, hty_R, hvi_R, hvr_R, hvl_R, hsz_R, hty_L, hvi_L, hvr_L, hvl_L, hsz_L, hty_P, hvi_P, hvr_P, hvl_P, hsz_P, hty_C, hvi_C, hvr_C, hvl_C, hsz_C, show ¬ 12 * n' + k = e by omega, g1]
    · rw [chJ_row q1 (by omega) (by simp)]; simp [hty_I, hvi_I, hvr_I, hvl_I, hsz_I, hty_R, hvi_R, hvr_R, hvl_R, hsz_R, hty_L, hvi_L, hvr_L, hvl_L, hsz_L, hty_P, hvi_P, hvr_P, hvl_P, hsz_P, hty_C, hvi_C, hvr_C, hvl_C, hsz_C, show ¬ 12 * n' + k = e by omega, g2]
    · rw [q4 _ (by omega)]; simp [hty_I, hvi_I, hvr_I, hvl_I, hsz_I, hty_R, hvi_R, hvr_R, hvl_R, hsz_R, hty_L, hvi_L, hvr_L, hvl_L, hsz_L, hty_P, hvi_P, hvr_P, hvl_P, hsz_P, hty_C, hvi_C, hvr_C, hvl_C, hsz_C]; exact g3 i hi
