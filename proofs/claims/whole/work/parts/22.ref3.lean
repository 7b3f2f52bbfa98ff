/-! THE REFERENCE: the way -/
theorem layWay_loop {G : Nat → Nat} {d r o : Nat} {C : mQ} {X : mX} {w : List Int} {x2 : Option mV} (bw : bd w) (hN : o + w.length ≤ 100) : ∀ (m i : Nat) (h : mH), m + i = w.length → RN r h → ro h (r + 13) o w → hvi h r 25 = (w.length : Int) → (∀ k, k < i → hvi h (r + 17) k = lf w k) →
    (∀ h', chJ (sR r [17]) h h' → ro h' (r + 17) 0 w → C none h') →
    wp G d 105 100009 [some (.inr (.inl (some r))), some (.inl (o : Int)), x2, some (.inl (i : Int))] [] h 0 0 C X := by
  intro m
  induction m with
  | zero =>
    intro i h hm HR hr h25 hp hC
    have R0 := HR.1; have R_line := rn_line HR; have R_way := rn_way HR
    have hz := hC h chJ_refl (fun k hk => by rw [Nat.zero_add]; exact hp k (by omega))
    have hi : i = w.length := by omega
    rw [wp_hd]
    (repeat' (first | with_reducible assumption | (refine And.intro ?_ ?_) | (with_reducible intro _) | (simp [wp_eq, wpE, mk_X11_layWay, mg, mc_X11_layWay, lget, lset, popN, cats, rcv, entL, isArr, kC_s, kC_n, st1, st2, st3, st4, st5, st6, st7, st8, st9, st10, st11, st12, st13, st14, st15, st16, st17, st18, st19, st20, st21, st22, st23, st24, st25, st26, st27, st28, st29, st30, st31, st32, st33, st34, st35, st36, st37, st38, st39, st40, st41, st42, st43, st44, st45, st46, st47, st48, st49, st50, st51, st52, st53, st54, st55, st56, st57, st58, st59, st60, st61, st62, st63, st64, st65, st66, st67, st68, st69, st70, st71, st72, st73, st74, st75, st76, st77, st78, st79, st80, st81, st82, st83, st84, st85, st86, st87, st88, st89, st90, st91, R0, R_line, R_way, h25, hi]))) <;> (try (first | omega | exact hz))
  | succ m ih =>
    intro i h hm HR hr h25 hp hC
    have R0 := HR.1; have R_line := rn_line HR; have R_way := rn_way HR
    have hc := hr i (by omega)
    have bi := lf_b bw i
    have hq : chJ (sR r [17]) h (hsetI h (r + 17) i (lf w i)) := chJ_set (by simp [sR])
    have hz := ih (i + 1) _ (by omega) (RN_ch hq HR) (fun k hk => by simp [hty_I, hvi_I, hvr_I, hvl_I, hsz_I, hty_R, hvi_R, hvr_R, hvl_R, hsz_R, hty_L, hvi_L, hvr_L, hvl_L, hsz_L, hty_P, hvi_P, hvr_P, hvl_P, hsz_P, hty_C, hvi_C, hvr_C, hvl_C, hsz_C]; exact hr k hk) (by simp [hty_I, hvi_I, hvr_I, hvl_I, hsz_I, hty_R, hvi_R, hvr_R, hvl_R, hsz_R, hty_L, hvi_L, hvr_L, hvl_L, hsz_L, hty_P, hvi_P, hvr_P, hvl_P, hsz_P, hty_C, hvi_C, hvr_C, hvl_C, hsz_C, h25]) (fun k hk => by
      by_cases he : k = i
      · simp [hty_I, hvi_I, hvr_I, hvl_I, hsz_I, hty_R, hvi_R, hvr_R, hvl_R, hsz_R, hty_L, hvi_L, hvr_L, hvl_L, hsz_L, hty_P, hvi_P, hvr_P, hvl_P, hsz_P, hty_C, hvi_C, hvr_C, hvl_C, hsz_C, he]
      · simp [hty_I, hvi_I, hvr_I, hvl_I, hsz_I, hty_R, hvi_R, hvr_R, hvl_R, hsz_R, hty_L, hvi_L, hvr_L, hvl_L, hsz_L, hty_P, hvi_P, hvr_P, hvl_P, hsz_P, hty_C, hvi_C, hvr_C, hvl_C, hsz_C, he]; exact hp k (by omega)) (fun h' q1 q2 => hC h' (chJ_trans hq q1) q2)
    have hi : i < w.length := by omega
    have e1 : ((o : Int) + (i : Int)).toNat = o + i := by omega
    rw [wp_hd]
    (repeat' (first | with_reducible assumption | (refine And.intro ?_ ?_) | (with_reducible intro _) | (simp [wp_eq, wpE, mk_X11_layWay, mg, mc_X11_layWay, lget, lset, popN, cats, rcv, entL, isArr, kC_s, kC_n, st1, st2, st3, st4, st5, st6, st7, st8, st9, st10, st11, st12, st13, st14, st15, st16, st17, st18, st19, st20, st21, st22, st23, st24, st25, st26, st27, st28, st29, st30, st31, st32, st33, st34, st35, st36, st37, st38, st39, st40, st41, st42, st43, st44, st45, st46, st47, st48, st49, st50, st51, st52, st53, st54, st55, st56, st57, st58, st59, st60, st61, st62, st63, st64, st65, st66, st67, st68, st69, st70, st71, st72, st73, st74, st75, st76, st77, st78, st79, st80, st81, st82, st83, st84, st85, st86, st87, st88, st89, st90, st91, R0, R_line, R_way, h25, hi, e1, hc, inR]))) <;> (try (first | omega | exact hz))
theorem r_layWay {G : Nat → Nat} {d r o : Nat} {h : mH} {C : mQ} {X : mX} {w : List Int} (HR : RN r h) (bw : bd w) (hN : o + w.length ≤ 100) (hr : ro h (r + 13) o w)
    (hC : ∀ h', chJ (sR r [17, 125]) h h' → hvi h' r 25 = (w.length : Int) → ro h' (r + 17) 0 w → C none h') :
    callG (wp G) d 105 0 0 4 [.inr (.inl (some r)), .inl (o : Int), .inl ((o + w.length : Nat) : Int)] h C X := by
  have R0 := HR.1; have R_line := rn_line HR; have R_way := rn_way HR
  have e1 : ((o + w.length : Nat) : Int) - (o : Int) = (w.length : Int) := by omega
  have hq : chJ (sR r [17, 125]) h (hsetI h r 25 (w.length : Int)) := chJ_set (by simp [sR])
  have hz := layWay_loop (G := G) (d := d - 1) (C := C) (X := fun _ _ => False) (x2 := some (.inl ((o + w.length : Nat) : Int))) bw hN w.length 0 _ (by omega) (RN_ch hq HR) (fun k hk => by simp [hty_I, hvi_I, hvr_I, hvl_I, hsz_I, hty_R, hvi_R, hvr_R, hvl_R, hsz_R, hty_L, hvi_L, hvr_L, hvl_L, hsz_L, hty_P, hvi_P, hvr_P, hvl_P, hsz_P, hty_C, hvi_C, hvr_C, hvl_C, hsz_C]; exact hr k hk) (by simp [hty_I, hvi_I, hvr_I, hvl_I, hsz_I, hty_R, hvi_R, hvr_R, hvl_R, hsz_R, hty_L, hvi_L, hvr_L, hvl_L, hsz_L, hty_P, hvi_P, hvr_P, hvl_P, hsz_P, hty_C, hvi_C, hvr_C, hvl_C, hsz_C]) (fun k hk => by omega) (fun h' q1 q2 => hC h' (chJ_trans hq (chJ_sub q1 (by simp))) (by rw [chJ_fld q1 (by simp) (by simp)]; simp [hty_I, hvi_I, hvr_I, hvl_I, hsz_I, hty_R, hvi_R, hvr_R, hvl_R, hsz_R, hty_L, hvi_L, hvr_L, hvl_L, hsz_L, hty_P, hvi_P, hvr_P, hvl_P, hsz_P, hty_C, hvi_C, hvr_C, hvl_C, hsz_C]) q2)
  refine ⟨C, fun _ _ => False, ?_, fun _ _ q => q, fun _ _ q => q.elim⟩
  (repeat' (first | with_reducible assumption | (refine And.intro ?_ ?_) | (with_reducible intro _) | (simp [wp_eq, wpE, mk_X11_layWay, mg, mc_X11_layWay, lget, lset, popN, cats, rcv, entL, isArr, kC_s, kC_n, st1, st2, st3, st4, st5, st6, st7, st8, st9, st10, st11, st12, st13, st14, st15, st16, st17, st18, st19, st20, st21, st22, st23, st24, st25, st26, st27, st28, st29, st30, st31, st32, st33, st34, st35, st36, st37, st38, st39, st40, st41, st42, st43, st44, st45, st46, st47, st48, st49, st50, st51, st52, st53, st54, st55, st56, st57, st58, st59, st60, st61, st62, st63, st64, st65, st66, st67, st68, st69, st70, st71, st72, st73, st74, st75, st76, st77, st78, st79, st80, st81, st82, st83, st84, st85, st86, st87, st88, st89, st90, st91, R0, R_line, R_way, -Int.natCast_add, e1, inR]))) <;> (try (first | omega | exact hz))
theorem lt1_loop {G : Nat → Nat} {d r o n : Nat} {C : mQ} {X : mX} {w : List Int} {x5 : Option mV} {z : Int} (bw : bd w) (hN : o + w.length ≤ 1000) : ∀ (m i : Nat) (h : mH), m + i = w.length → RN r h → ro h (r + 17) o w → hvi h r 25 = ((o + w.length : Nat) : Int) → (∀ k, k < i → hvi h (r + 18) k = lf w k) →
    (∀ h', chJ (sR r [18]) h h' → ro h' (r + 18) 0 w → wp G d 106 100052 [some (.inr (.inl (some r))), some (.inl (n : Int)), some (.inl (o : Int)), some (.inl z), some (.inl (w.length : Int)), some (.inl 0)] [] h' 0 0 C X) →
    wp G d 106 100010 [some (.inr (.inl (some r))), some (.inl (n : Int)), some (.inl (o : Int)), some (.inl z), some (.inl ((o + i : Nat) : Int)), x5] [] h 0 0 C X := by
  have e2 : ((o + w.length : Nat) : Int) - (o : Int) = (w.length : Int) := by omega
  intro m
  induction m with
  | zero =>
    intro i h hm HR hr h25 hp hC
    have R0 := HR.1; have R_textSizes := rn_textSizes HR; have R_texts := rn_texts HR; have R_way := rn_way HR; have R_spare := rn_spare HR
    have hz := hC h chJ_refl (fun k hk => by rw [Nat.zero_add]; exact hp k (by omega))
    have hi : i = w.length := by omega
    rw [wp_hd]
    (repeat' (first | with_reducible assumption | (refine And.intro ?_ ?_) | (with_reducible intro _) | (simp [wp_eq, wpE, mk_X11_layText, mg, mc_X11_layText, lget, lset, popN, cats, rcv, entL, isArr, kC_s, kC_n, st1, st2, st3, st4, st5, st6, st7, st8, st9, st10, st11, st12, st13, st14, st15, st16, st17, st18, st19, st20, st21, st22, st23, st24, st25, st26, st27, st28, st29, st30, st31, st32, st33, st34, st35, st36, st37, st38, st39, st40, st41, st42, st43, st44, st45, st46, st47, st48, st49, st50, st51, st52, st53, st54, st55, st56, st57, st58, st59, st60, st61, st62, st63, st64, st65, st66, st67, st68, st69, st70, st71, st72, st73, st74, st75, st76, st77, st78, st79, st80, st81, st82, st83, st84, st85, st86, st87, st88, st89, st90, st91, R0, R_textSizes, R_texts, R_way, R_spare, -Int.natCast_add, h25, hi, e2, inR]))) <;> (try (first | omega | exact hz))
  | succ m ih =>
    intro i h hm HR hr h25 hp hC
    have R0 := HR.1; have R_textSizes := rn_textSizes HR; have R_texts := rn_texts HR; have R_way := rn_way HR; have R_spare := rn_spare HR
    have hc := hr i (by omega)
    have bi := lf_b bw i
    have hq : chJ (sR r [18]) h (hsetI h (r + 18) i (lf w i)) := chJ_set (by simp [sR])
    have hz := ih (i + 1) _ (by omega) (RN_ch hq HR) (fun k hk => by simp [hty_I, hvi_I, hvr_I, hvl_I, hsz_I, hty_R, hvi_R, hvr_R, hvl_R, hsz_R, hty_L, hvi_L, hvr_L, hvl_L, hsz_L, hty_P, hvi_P, hvr_P, hvl_P, hsz_P, hty_C, hvi_C, hvr_C, hvl_C, hsz_C]; exact hr k hk) (by simp only [hvi_I]; rw [if_neg (by omega)]; exact h25) (fun k hk => by
      by_cases he : k = i
      · simp [hty_I, hvi_I, hvr_I, hvl_I, hsz_I, hty_R, hvi_R, hvr_R, hvl_R, hsz_R, hty_L, hvi_L, hvr_L, hvl_L, hsz_L, hty_P, hvi_P, hvr_P, hvl_P, hsz_P, hty_C, hvi_C, hvr_C, hvl_C, hsz_C, he]
      · simp [hty_I, hvi_I, hvr_I, hvl_I, hsz_I, hty_R, hvi_R, hvr_R, hvl_R, hsz_R, hty_L, hvi_L, hvr_L, hvl_L, hsz_L, hty_P, hvi_P, hvr_P, hvl_P, hsz_P, hty_C, hvi_C, hvr_C, hvl_C, hsz_C, he]; exact hp k (by omega)) (fun h' q1 q2 => hC h' (chJ_trans hq q1) q2)
    have hi : i < w.length := by omega
    have e1 : ((o + i : Nat) : Int).toNat = o + i := by omega
    have e3 : ((o + i : Nat) : Int) - (o : Int) = (i : Int) := by omega
    have e4 : ((o + i : Nat) : Int) + 1 = ((o + (i + 1) : Nat) : Int) := by omega
    rw [wp_hd]
    (repeat' (first | with_reducible assumption | (refine And.intro ?_ ?_) | (with_reducible intro _) | (simp [wp_eq, wpE, mk_X11_layText, mg, mc_X11_layText, lget, lset, popN, cats, rcv, entL, isArr, kC_s, kC_n, st1, st2, st3, st4, st5, st6, st7, st8, st9, st10, st11, st12, st13, st14, st15, st16, st17, st18, st19, st20, st21, st22, st23, st24, st25, st26, st27, st28, st29, st30, st31, st32, st33, st34, st35, st36, st37, st38, st39, st40, st41, st42, st43, st44, st45, st46, st47, st48, st49, st50, st51, st52, st53, st54, st55, st56, st57, st58, st59, st60, st61, st62, st63, st64, st65, st66, st67, st68, st69, st70, st71, st72, st73, st74, st75, st76, st77, st78, st79, st80, st81, st82, st83, st84, st85, st86, st87, st88, st89, st90, st91, R0, R_textSizes, R_texts, R_way, R_spare, -Int.natCast_add, h25, hi, e1, e3, e4, hc, inR]))) <;> (try (first | omega | exact hz))
theorem lt3_loop {G : Nat → Nat} {d r : Nat} {C : mQ} {X : mX} {u w : List Int} {x1 x2 : Option mV} (bw : bd w) (hN : u.length + w.length ≤ 1000) : ∀ (m i : Nat) (h : mH), m + i = w.length → RN r h → ro h (r + 18) 0 w → ro h (r + 17) 0 u → (∀ k, k < i → hvi h (r + 17) (u.length + k) = lf w k) →
    (∀ h', chJ (sR r [17, 125]) h h' → hvi h' r 25 = ((u ++ w).length : Int) → ro h' (r + 17) 0 (u ++ w) → C none h') →
    wp G d 106 100086 [some (.inr (.inl (some r))), x1, x2, some (.inl (u.length : Int)), some (.inl (w.length : Int)), some (.inl (i : Int))] [] h 0 0 C X := by
  intro m
  induction m with
  | zero =>
    intro i h hm HR hr hu hp hC
    have R0 := HR.1; have R_textSizes := rn_textSizes HR; have R_texts := rn_texts HR; have R_way := rn_way HR; have R_spare := rn_spare HR
    have e2 : (u.length : Int) + (w.length : Int) = ((u ++ w).length : Int) := by simp
    have hi : i = w.length := by omega
    have hz := hC (hsetI h r 25 ((u ++ w).length : Int)) (chJ_set (by simp [sR])) (by simp [hty_I, hvi_I, hvr_I, hvl_I, hsz_I, hty_R, hvi_R, hvr_R, hvl_R, hsz_R, hty_L, hvi_L, hvr_L, hvl_L, hsz_L, hty_P, hvi_P, hvr_P, hvl_P, hsz_P, hty_C, hvi_C, hvr_C, hvl_C, hsz_C]) (ro_app (fun k hk => by simp [hty_I, hvi_I, hvr_I, hvl_I, hsz_I, hty_R, hvi_R, hvr_R, hvl_R, hsz_R, hty_L, hvi_L, hvr_L, hvl_L, hsz_L, hty_P, hvi_P, hvr_P, hvl_P, hsz_P, hty_C, hvi_C, hvr_C, hvl_C, hsz_C]; have := hu k hk; simpa using this) (fun k hk => by simp [hty_I, hvi_I, hvr_I, hvl_I, hsz_I, hty_R, hvi_R, hvr_R, hvl_R, hsz_R, hty_L, hvi_L, hvr_L, hvl_L, hsz_L, hty_P, hvi_P, hvr_P, hvl_P, hsz_P, hty_C, hvi_C, hvr_C, hvl_C, hsz_C]; exact hp k (by omega)))
    rw [wp_hd]
    (repeat' (first | with_reducible assumption | (refine And.intro ?_ ?_) | (with_reducible intro _) | (simp [wp_eq, wpE, mk_X11_layText, mg, mc_X11_layText, lget, lset, popN, cats, rcv, entL, isArr, kC_s, kC_n, st1, st2, st3, st4, st5, st6, st7, st8, st9, st10, st11, st12, st13, st14, st15, st16, st17, st18, st19, st20, st21, st22, st23, st24, st25, st26, st27, st28, st29, st30, st31, st32, st33, st34, st35, st36, st37, st38, st39, st40, st41, st42, st43, st44, st45, st46, st47, st48, st49, st50, st51, st52, st53, st54, st55, st56, st57, st58, st59, st60, st61, st62, st63, st64, st65, st66, st67, st68, st69, st70, st71, st72, st73, st74, st75, st76, st77, st78, st79, st80, st81, st82, st83, st84, st85, st86, st87, st88, st89, st90, st91, R0, R_textSizes, R_texts, R_way, R_spare, -List.length_append, hi, e2, inR]))) <;> (try (first | omega | exact hz))
  | succ m ih =>
    intro i h hm HR hr hu hp hC
    have R0 := HR.1; have R_textSizes := rn_textSizes HR; have R_texts := rn_texts HR; have R_way := rn_way HR; have R_spare := rn_spare HR
    have hc := hr i (by omega)
    rw [Nat.zero_add] at hc
    have bi := lf_b bw i
    have hq : chJ (sR r [17, 125]) h (hsetI h (r + 17) (u.length + i) (lf w i)) := chJ_set (by simp [sR])
    have hz := ih (i + 1) _ (by omega) (RN_ch hq HR) (fun k hk => by simp [hty_I, hvi_I, hvr_I, hvl_I, hsz_I, hty_R, hvi_R, hvr_R, hvl_R, hsz_R, hty_L, hvi_L, hvr_L, hvl_L, hsz_L, hty_P, hvi_P, hvr_P, hvl_P, hsz_P, hty_C, hvi_C, hvr_C, hvl_C, hsz_C]; have := hr k hk; simpa using this) (fun k hk => by simp [hty_I, hvi_I, hvr_I, hvl_I, hsz_I, hty_R, hvi_R, hvr_R, hvl_R, hsz_R, hty_L, hvi_L, hvr_L, hvl_L, hsz_L, hty_P, hvi_P, hvr_P, hvl_P, hsz_P, hty_C, hvi_C, hvr_C, hvl_C, hsz_C, show ¬ k = u.length + i by omega]; have := hu k hk; simpa using this) (fun k hk => by
      by_cases he : k = i
      · simp [hty_I, hvi_I, hvr_I, hvl_I, hsz_I, hty_R, hvi_R, hvr_R, hvl_R, hsz_R, hty_L, hvi_L, hvr_L, hvl_L, hsz_L, hty_P, hvi_P, hvr_P, hvl_P, hsz_P, hty_C, hvi_C, hvr_C, hvl_C, hsz_C, he]
      · simp [hty_I, hvi_I, hvr_I, hvl_I, hsz_I, hty_R, hvi_R, hvr_R, hvl_R, hsz_R, hty_L, hvi_L, hvr_L, hvl_L, hsz_L, hty_P, hvi_P, hvr_P, hvl_P, hsz_P, hty_C, hvi_C, hvr_C, hvl_C, hsz_C, he]; exact hp k (by omega)) (fun h' q1 q2 => hC h' (chJ_trans hq q1) q2)
    have hi : i < w.length := by omega
    have e1 : ((u.length : Int) + (i : Int)).toNat = u.length + i := by omega
    rw [wp_hd]
    (repeat' (first | with_reducible assumption | (refine And.intro ?_ ?_) | (with_reducible intro _) | (simp [wp_eq, wpE, mk_X11_layText, mg, mc_X11_layText, lget, lset, popN, cats, rcv, entL, isArr, kC_s, kC_n, st1, st2, st3, st4, st5, st6, st7, st8, st9, st10, st11, st12, st13, st14, st15, st16, st17, st18, st19, st20, st21, st22, st23, st24, st25, st26, st27, st28, st29, st30, st31, st32, st33, st34, st35, st36, st37, st38, st39, st40, st41, st42, st43, st44, st45, st46, st47, st48, st49, st50, st51, st52, st53, st54, st55, st56, st57, st58, st59, st60, st61, st62, st63, st64, st65, st66, st67, st68, st69, st70, st71, st72, st73, st74, st75, st76, st77, st78, st79, st80, st81, st82, st83, st84, st85, st86, st87, st88, st89, st90, st91, R0, R_textSizes, R_texts, R_way, R_spare, hi, e1, hc, inR]))) <;> (try (first | omega | exact hz))
theorem lt2_loop {G : Nat → Nat} {d r n : Nat} {C : mQ} {X : mX} {u w : List Int} {x2 : Option mV} (hn : n < 48) (bu : bd u) (bw : bd w) (hu40 : u.length ≤ 40) (hN : u.length + w.length ≤ 1000) : ∀ (m i : Nat) (h : mH), m + i = u.length → RN r h → ro h (r + 8) (40 * n) u → ro h (r + 18) 0 w → (∀ k, k < i → hvi h (r + 17) k = lf u k) →
    (∀ h', chJ (sR r [17, 125]) h h' → hvi h' r 25 = ((u ++ w).length : Int) → ro h' (r + 17) 0 (u ++ w) → C none h') →
    wp G d 106 100052 [some (.inr (.inl (some r))), some (.inl (n : Int)), x2, some (.inl (u.length : Int)), some (.inl (w.length : Int)), some (.inl (i : Int))] [] h 0 0 C X := by
  intro m
  induction m with
  | zero =>
    intro i h hm HR hr hw hp hC
    have R0 := HR.1; have R_textSizes := rn_textSizes HR; have R_texts := rn_texts HR; have R_way := rn_way HR; have R_spare := rn_spare HR
    have hi : i = u.length := by omega
    have hz := lt3_loop (G := G) (d := d) (C := C) (X := X) (x1 := some (.inl (n : Int))) (x2 := x2) bw hN w.length 0 h (by omega) HR hw (fun k hk => by rw [Nat.zero_add]; exact hp k (by omega)) (fun k hk => by omega) hC
    rw [wp_hd]
    (repeat' (first | with_reducible assumption | (refine And.intro ?_ ?_) | (with_reducible intro _) | (simp [wp_eq, wpE, mk_X11_layText, mg, mc_X11_layText, lget, lset, popN, cats, rcv, entL, isArr, kC_s, kC_n, st1, st2, st3, st4, st5, st6, st7, st8, st9, st10, st11, st12, st13, st14, st15, st16, st17, st18, st19, st20, st21, st22, st23, st24, st25, st26, st27, st28, st29, st30, st31, st32, st33, st34, st35, st36, st37, st38, st39, st40, st41, st42, st43, st44, st45, st46, st47, st48, st49, st50, st51, st52, st53, st54, st55, st56, st57, st58, st59, st60, st61, st62, st63, st64, st65, st66, st67, st68, st69, st70, st71, st72, st73, st74, st75, st76, st77, st78, st79, st80, st81, st82, st83, st84, st85, st86, st87, st88, st89, st90, st91, R0, R_textSizes, R_texts, R_way, R_spare, hi]))) <;> (try (first | omega | exact hz))
  | succ m ih =>
    intro i h hm HR hr hw hp hC
    have R0 := HR.1; have R_textSizes := rn_textSizes HR; have R_texts := rn_texts HR; have R_way := rn_way HR; have R_spare := rn_spare HR
    have hc := hr i (by omega)
    have bi := lf_b bu i
    have hq : chJ (sR r [17, 125]) h (hsetI h (r + 17) i (lf u i)) := chJ_set (by simp [sR])
    have hz := ih (i + 1) _ (by omega) (RN_ch hq HR) (fun k hk => by simp [hty_I, hvi_I, hvr_I, hvl_I, hsz_I, hty_R, hvi_R, hvr_R, hvl_R, hsz_R, hty_L, hvi_L, hvr_L, hvl_L, hsz_L, hty_P, hvi_P, hvr_P, hvl_P, hsz_P, hty_C, hvi_C, hvr_C, hvl_C, hsz_C]; exact hr k hk) (fun k hk => by simp [hty_I, hvi_I, hvr_I, hvl_I, hsz_I, hty_R, hvi_R, hvr_R, hvl_R, hsz_R, hty_L, hvi_L, hvr_L, hvl_L, hsz_L, hty_P, hvi_P, hvr_P, hvl_P, hsz_P, hty_C, hvi_C, hvr_C, hvl_C, hsz_C]; have := hw k hk; simpa using this) (fun k hk => by
      by_cases he : k = i
      · simp [hty_I, hvi_I, hvr_I, hvl_I, hsz_I, hty_R, hvi_R, hvr_R, hvl_R, hsz_R, hty_L, hvi_L, hvr_L, hvl_L, hsz_L, hty_P, hvi_P, hvr_P, hvl_P, hsz_P, hty_C, hvi_C, hvr_C, hvl_C, hsz_C, he]
      · simp [hty_I, hvi_I, hvr_I, hvl_I, hsz_I, hty_R, hvi_R, hvr_R, hvl_R, hsz_R, hty_L, hvi_L, hvr_L, hvl_L, hsz_L, hty_P, hvi_P, hvr_P, hvl_P, hsz_P, hty_C, hvi_C, hvr_C, hvl_C, hsz_C, he]; exact hp k (by omega)) (fun h' q1 q2 => hC h' (chJ_trans hq q1) q2)
    have hi : i < u.length := by omega
    have e1 : ((40 : Int) * (n : Int) + (i : Int)).toNat = 40 * n + i := by omega
    rw [wp_hd]
    (repeat' (first | with_reducible assumption | (refine And.intro ?_ ?_) | (with_reducible intro _) | (simp [wp_eq, wpE, mk_X11_layText, mg, mc_X11_layText, lget, lset, popN, cats, rcv, entL, isArr, kC_s, kC_n, st1, st2, st3, st4, st5, st6, st7, st8, st9, st10, st11, st12, st13, st14, st15, st16, st17, st18, st19, st20, st21, st22, st23, st24, st25, st26, st27, st28, st29, st30, st31, st32, st33, st34, st35, st36, st37, st38, st39, st40, st41, st42, st43, st44, st45, st46, st47, st48, st49, st50, st51, st52, st53, st54, st55, st56, st57, st58, st59, st60, st61, st62, st63, st64, st65, st66, st67, st68, st69, st70, st71, st72, st73, st74, st75, st76, st77, st78, st79, st80, st81, st82, st83, st84, st85, st86, st87, st88, st89, st90, st91, R0, R_textSizes, R_texts, R_way, R_spare, hi, e1, hc, inR]))) <;> (try (first | omega | exact hz))
theorem r_layText {G : Nat → Nat} {d r n o : Nat} {h : mH} {C : mQ} {X : mX} {u w : List Int} (HR : RN r h) (hn : n < 48) (h7 : hvi h (r + 7) n = (u.length : Int)) (hu : ro h (r + 8) (40 * n) u) (bu : bd u) (hu40 : u.length ≤ 40) (bw : bd w) (hw : ro h (r + 17) o w) (h25 : hvi h r 25 = ((o + w.length : Nat) : Int)) (hN : o + w.length ≤ 900)
    (hC : ∀ h', chJ (sR r [17, 18, 125]) h h' → hvi h' r 25 = ((u ++ w).length : Int) → ro h' (r + 17) 0 (u ++ w) → C none h') :
    callG (wp G) d 106 0 0 6 [.inr (.inl (some r)), .inl (n : Int), .inl (o : Int)] h C X := by
  have R0 := HR.1; have R_textSizes := rn_textSizes HR; have R_texts := rn_texts HR; have R_way := rn_way HR; have R_spare := rn_spare HR
  have hz := lt1_loop (G := G) (d := d - 1) (C := C) (X := fun _ _ => False) (n := n) (x5 := none) (z := (u.length : Int)) bw (by omega) w.length 0 h (by omega) HR hw h25 (fun k hk => by omega) (fun h1 q1 q2 => lt2_loop hn bu bw hu40 (by omega) u.length 0 h1 (by omega) (RN_ch q1 HR) (fun k hk => by rw [chJ_row q1 (by omega) (by simp)]; exact hu k hk) q2 (fun k hk => by omega) (fun h2 p1 p2 p3 => hC h2 (chJ_trans (chJ_sub q1 (by simp)) (chJ_sub p1 (by simp))) p2 p3))
  simp only [Nat.add_zero] at hz
  refine ⟨C, fun _ _ => False, ?_, fun _ _ q => q, fun _ _ q => q.elim⟩
  (repeat' (first | with_reducible assumption | (refine And.intro ?_ ?_) | (with_reducible intro _) | (simp [wp_eq, wpE, mk_X11_layText, mg, mc_X11_layText, lget, lset, popN, cats, rcv, entL, isArr, kC_s, kC_n, st1, st2, st3, st4, st5, st6, st7, st8, st9, st10, st11, st12, st13, st14, st15, st16, st17, st18, st19, st20, st21, st22, st23, st24, st25, st26, st27, st28, st29, st30, st31, st32, st33, st34, st35, st36, st37, st38, st39, st40, st41, st42, st43, st44, st45, st46, st47, st48, st49, st50, st51, st52, st53, st54, st55, st56, st57, st58, st59, st60, st61, st62, st63, st64, st65, st66, st67, st68, st69, st70, st71, st72, st73, st74, st75, st76, st77, st78, st79, st80, st81, st82, st83, st84, st85, st86, st87, st88, st89, st90, st91, R0, R_textSizes, R_texts, R_way, R_spare, -Int.natCast_add, h7, inR]))) <;> (try (first | omega | exact hz))
/-- the tree in the reference -/
def RT (r : Nat) (h : mH) (T : aT) (Es : Nat → List aE) (here : Nat) : Prop := hvi h r 13 = (here : Int) ∧ (∀ n, n < 48 → hvi h (r + 1) n = tK T n) ∧ ∀ n v, n < 48 → T n = some v → hvi h (r + 2) n = nZ v ∧ hvi h (r + 3) n = nD v ∧ hvi h (r + 4) n = nT v ∧ (nK v = 0 → hvi h (r + 5) n = nB v ∧ hvi h (r + 6) n = (nA v : Int) ∧ RE r h n (Es n) ∧ (Es n).Perm (nE v)) ∧ (nK v = 2 → hvi h (r + 7) n = ((nX v).length : Int) ∧ ro h (r + 8) (40 * n) (nX v) ∧ bd (nX v) ∧ (nX v).length ≤ 40)
theorem RE_ch {r n : Nat} {h h' : mH} {E : List aE} {l : List Nat} (q : chJ (sR r l) h h') (hl : ¬ 9 ∈ l ∧ ¬ 10 ∈ l ∧ ¬ 11 ∈ l ∧ ¬ 12 ∈ l) (H : RE r h n E) : RE r h' n E := by
  obtain ⟨g1, g2, g3⟩ := H
  refine ⟨by rw [chJ_row q (by omega) hl.1]; exact g1, g2, fun k p hk => ?_⟩
  obtain ⟨f1, f2, f3, f4⟩ := g3 k p hk
  exact ⟨by rw [chJ_row q (by omega) hl.2.1]; exact f1, by rw [chJ_row q (by omega) hl.2.2.1]; exact f2, fun i hi => by rw [chJ_row q (by omega) hl.2.2.2]; exact f3 i hi, f4⟩
theorem RT_ch {r : Nat} {h h' : mH} {T : aT} {Es : Nat → List aE} {here : Nat} {l : List Nat} (q : chJ (sR r l) h h') (hl : ∀ c ∈ [0, 1, 2, 3, 4, 5, 6, 7, 8, 9, 10, 11, 12, 113], ¬ c ∈ l) (H : RT r h T Es here) : RT r h' T Es here := by
  obtain ⟨g1, g2, g3⟩ := H
  refine ⟨by rw [chJ_fld q (hl _ (by simp)) (hl _ (by simp))]; exact g1, fun n hn => by rw [chJ_row q (by omega) (hl _ (by simp))]; exact g2 n hn, fun n v hn hT => ?_⟩
  obtain ⟨f1, f2, f3, f4, f5⟩ := g3 n v hn hT
  refine ⟨by rw [chJ_row q (by omega) (hl _ (by simp))]; exact f1, by rw [chJ_row q (by omega) (hl _ (by simp))]; exact f2, by rw [chJ_row q (by omega) (hl _ (by simp))]; exact f3, fun hk => ?_, fun hk => ?_⟩
  · obtain ⟨e1, e2, e3, e4⟩ := f4 hk
    exact ⟨by rw [chJ_row q (by omega) (hl _ (by simp))]; exact e1, by rw [chJ_row q (by omega) (hl _ (by simp))]; exact e2, RE_ch q ⟨hl _ (by simp), hl _ (by simp), hl _ (by simp), hl _ (by simp)⟩ e3, e4⟩
  · obtain ⟨e1, e2, e3⟩ := f5 hk
    exact ⟨by rw [chJ_row q (by omega) (hl _ (by simp))]; exact e1, fun i hi => by rw [chJ_row q (by omega) (hl _ (by simp))]; exact e2 i hi, e3⟩
def cmR (r : Nat) (h : mH) (Es : Nat → List aE) (nd : Nat) : aC → Prop
  | none => hvi h r 26 = -1
  | some (d, s) => ∃ k, d < 48 ∧ k < 12 ∧ hvi h r 26 = ((12 * d + k : Nat) : Int) ∧ (Es d)[k]? = some (s, nd)
theorem rdsl_loop {G : Nat → Nat} {d r W : Nat} {h : mH} {C : mQ} {X : mX} {x1 x2 x3 x5 x6 x7 : Option mV} (HR : RN r h) (h25 : hvi h r 25 = (W : Int)) (hW : W ≤ 1000) : ∀ (w : List Int) (a : Nat), a + w.length = W → ro h (r + 17) a w →
    (∀ a' : Nat, a' + (dsl w).length = W → wp G d 107 67 [some (.inr (.inl (some r))), x1, x2, x3, some (.inl (a' : Int)), x5, x6, x7] [] h 0 0 C X) →
    wp G d 107 100040 [some (.inr (.inl (some r))), x1, x2, x3, some (.inl (a : Int)), x5, x6, x7] [] h 0 0 C X := by
  have R0 := HR.1; have R_kinds := rn_kinds HR; have R_bitsOf := rn_bitsOf HR; have R_parents := rn_parents HR; have R_targets := rn_targets HR; have R_way := rn_way HR
  intro w
  induction w with
  | nil =>
    intro a ha hr hC
    have hz := hC a (by simpa [dsl] using ha)
    simp at ha
    rw [ha] at hz
    rw [wp_hd]
    (repeat' (first | with_reducible assumption | (refine And.intro ?_ ?_) | (with_reducible intro _) | (simp [wp_ne 67, wpE, mk_X11_walk, mg, mc_X11_walk, lget, lset, popN, cats, rcv, entL, isArr, kC_s, kC_n, st1, st2, st3, st4, st5, st6, st7, st8, st9, st10, st11, st12, st13, st14, st15, st16, st17, st18, st19, st20, st21, st22, st23, st24, st25, st26, st27, st28, st29, st30, st31, st32, st33, st34, st35, st36, st37, st38, st39, st40, st41, st42, st43, st44, st45, st46, st47, st48, st49, st50, st51, st52, st53, st54, st55, st56, st57, st58, st59, st60, st61, st62, st63, st64, st65, st66, st67, st68, st69, st70, st71, st72, st73, st74, st75, st76, st77, st78, st79, st80, st81, st82, st83, st84, st85, st86, st87, st88, st89, st90, st91, R0, R_kinds, R_bitsOf, R_parents, R_targets, R_way, h25, ha]))) <;> (try (first | omega | exact hz))
  | cons c w ih =>
    intro a ha hr hC
    have hc := hr 0 (by simp)
    simp only [Nat.add_zero] at hc
    have hc2 : hvi h (r + 17) a = c := by simpa [lf] using hc
    simp at ha
    simp only [dsl] at hC
    have haW : a < W := by omega
    rw [wp_hd]
    by_cases h47 : c = 47
    · rw [if_pos h47] at hC
      have hz := ih (a + 1) (by omega) (fun i hi => by have := hr (i + 1) (by simp; omega); rw [show a + 1 + i = a + (i + 1) by omega, this]; simp [lf]) hC
      (repeat' (first | with_reducible assumption | (refine And.intro ?_ ?_) | (with_reducible intro _) | (simp [wp_ne 67, wpE, mk_X11_walk, mg, mc_X11_walk, lget, lset, popN, cats, rcv, entL, isArr, kC_s, kC_n, st1, st2, st3, st4, st5, st6, st7, st8, st9, st10, st11, st12, st13, st14, st15, st16, st17, st18, st19, st20, st21, st22, st23, st24, st25, st26, st27, st28, st29, st30, st31, st32, st33, st34, st35, st36, st37, st38, st39, st40, st41, st42, st43, st44, st45, st46, st47, st48, st49, st50, st51, st52, st53, st54, st55, st56, st57, st58, st59, st60, st61, st62, st63, st64, st65, st66, st67, st68, st69, st70, st71, st72, st73, st74, st75, st76, st77, st78, st79, st80, st81, st82, st83, st84, st85, st86, st87, st88, st89, st90, st91, R0, R_kinds, R_bitsOf, R_parents, R_targets, R_way, h25, haW, hc2, h47, inR]))) <;> (try (first | omega | exact hz))
    · rw [if_neg h47] at hC
      have hz := hC a (by simp; omega)
      (repeat' (first | with_reducible assumption | (refine And.intro ?_ ?_) | (with_reducible intro _) | (simp [wp_ne 67, wpE, mk_X11_walk, mg, mc_X11_walk, lget, lset, popN, cats, rcv, entL, isArr, kC_s, kC_n, st1, st2, st3, st4, st5, st6, st7, st8, st9, st10, st11, st12, st13, st14, st15, st16, st17, st18, st19, st20, st21, st22, st23, st24, st25, st26, st27, st28, st29, st30, st31, st32, st33, st34, st35, st36, st37, st38, st39, st40, st41, st42, st43, st44, st45, st46, st47, st48, st49, st50, st51, st52, st53, st54, st55, st56, st57, st58, st59, st60, st61, st62, st63, st64, st65, st66, st67, st68, st69, st70, st71, st72, st73, st74, st75, st76, st77, st78, st79, st80, st81, st82, st83, st84, st85, st86, st87, st88, st89, st90, st91, R0, R_kinds, R_bitsOf, R_parents, R_targets, R_way, h25, haW, hc2, h47, inR]))) <;> (try (first | omega | exact hz))
theorem rdrw_loop {G : Nat → Nat} {d r W : Nat} {h : mH} {C : mQ} {X : mX} {x1 x2 x3 x4 x6 x7 : Option mV} (HR : RN r h) (h25 : hvi h r 25 = (W : Int)) (hW : W ≤ 1000) : ∀ (w : List Int) (a : Nat), a + w.length = W → ro h (r + 17) a w →
    (∀ a' : Nat, a' + (drw w).length = W → wp G d 107 139 [some (.inr (.inl (some r))), x1, x2, x3, x4, some (.inl (a' : Int)), x6, x7] [] h 0 0 C X) →
    wp G d 107 100112 [some (.inr (.inl (some r))), x1, x2, x3, x4, some (.inl (a : Int)), x6, x7] [] h 0 0 C X := by
  have R0 := HR.1; have R_kinds := rn_kinds HR; have R_bitsOf := rn_bitsOf HR; have R_parents := rn_parents HR; have R_targets := rn_targets HR; have R_way := rn_way HR
  intro w
  induction w with
  | nil =>
    intro a ha hr hC
    have hz := hC a (by simpa [drw] using ha)
    simp at ha
    rw [ha] at hz
    rw [wp_hd]
    (repeat' (first | with_reducible assumption | (refine And.intro ?_ ?_) | (with_reducible intro _) | (simp [wp_ne 139, wpE, mk_X11_walk, mg, mc_X11_walk, lget, lset, popN, cats, rcv, entL, isArr, kC_s, kC_n, st1, st2, st3, st4, st5, st6, st7, st8, st9, st10, st11, st12, st13, st14, st15, st16, st17, st18, st19, st20, st21, st22, st23, st24, st25, st26, st27, st28, st29, st30, st31, st32, st33, st34, st35, st36, st37, st38, st39, st40, st41, st42, st43, st44, st45, st46, st47, st48, st49, st50, st51, st52, st53, st54, st55, st56, st57, st58, st59, st60, st61, st62, st63, st64, st65, st66, st67, st68, st69, st70, st71, st72, st73, st74, st75, st76, st77, st78, st79, st80, st81, st82, st83, st84, st85, st86, st87, st88, st89, st90, st91, R0, R_kinds, R_bitsOf, R_parents, R_targets, R_way, h25, ha]))) <;> (try (first | omega | exact hz))
  | cons c w ih =>
    intro a ha hr hC
    have hc := hr 0 (by simp)
    simp only [Nat.add_zero] at hc
    have hc2 : hvi h (r + 17) a = c := by simpa [lf] using hc
    simp at ha
    simp only [drw] at hC
    have haW : a < W := by omega
    rw [wp_hd]
    by_cases h47 : c = 47
    · rw [if_pos h47] at hC
      have hz := hC a (by simp; omega)
      (repeat' (first | with_reducible assumption | (refine And.intro ?_ ?_) | (with_reducible intro _) | (simp [wp_ne 139, wpE, mk_X11_walk, mg, mc_X11_walk, lget, lset, popN, cats, rcv, entL, isArr, kC_s, kC_n, st1, st2, st3, st4, st5, st6, st7, st8, st9, st10, st11, st12, st13, st14, st15, st16, st17, st18, st19, st20, st21, st22, st23, st24, st25, st26, st27, st28, st29, st30, st31, st32, st33, st34, st35, st36, st37, st38, st39, st40, st41, st42, st43, st44, st45, st46, st47, st48, st49, st50, st51, st52, st53, st54, st55, st56, st57, st58, st59, st60, st61, st62, st63, st64, st65, st66, st67, st68, st69, st70, st71, st72, st73, st74, st75, st76, st77, st78, st79, st80, st81, st82, st83, st84, st85, st86, st87, st88, st89, st90, st91, R0, R_kinds, R_bitsOf, R_parents, R_targets, R_way, h25, haW, hc2, h47, inR]))) <;> (try (first | omega | exact hz))
    · rw [if_neg h47] at hC
      have hz := ih (a + 1) (by omega) (fun i hi => by have := hr (i + 1) (by simp; omega); rw [show a + 1 + i = a + (i + 1) by omega, this]; simp [lf]) hC
      (repeat' (first | with_reducible assumption | (refine And.intro ?_ ?_) | (with_reducible intro _) | (simp [wp_ne 139, wpE, mk_X11_walk, mg, mc_X11_walk, lget, lset, popN, cats, rcv, entL, isArr, kC_s, kC_n, st1, st2, st3, st4, st5, st6, st7, st8, st9, st10, st11, st12, st13, st14, st15, st16, st17, st18, st19, st20, st21, st22, st23, st24, st25, st26, st27, st28, st29, st30, st31, st32, st33, st34, st35, st36, st37, st38, st39, st40, st41, st42, st43, st44, st45, st46, st47, st48, st49, st50, st51, st52, st53, st54, st55, st56, st57, st58, st59, st60, st61, st62, st63, st64, st65, st66, st67, st68, st69, st70, st71, st72, st73, st74, st75, st76, st77, st78, st79, st80, st81, st82, st83, st84, st85, st86, st87, st88, st89, st90, st91, R0, R_kinds, R_bitsOf, R_parents, R_targets, R_way, h25, haW, hc2, h47, inR]))) <;> (try (first | omega | exact hz))
theorem dsl_nil : ∀ {w : List Int}, dsl w = [] → ∀ i, i < w.length → lf w i = 47 := by
  intro w
  induction w with
  | nil => intro _ i hi; simp at hi
  | cons c w ih =>
    intro h i hi
    simp only [dsl] at h
    split at h
    · rename_i hc
      cases i with
      | zero => simpa [lf] using hc
      | succ i => have := ih h i (by simp at hi; omega); simpa [lf] using this
    · cases h
theorem tkw_no : ∀ (w : List Int) i, i < (tkw w).length → ¬ lf (tkw w) i = 47 := by
  intro w
  induction w with
  | nil => intro i hi; simp [tkw] at hi
  | cons c w ih =>
    intro i hi
    simp only [tkw] at hi ⊢
    split at hi
    · simp at hi
    · rename_i hc
      rw [if_neg hc]
      cases i with
      | zero => simpa [lf] using hc
      | succ i => have := ih i (by simp at hi; omega); simpa [lf] using this
theorem tkw_pos {w : List Int} (h : ¬ dsl w = []) : 0 < (tkw (dsl w)).length := by
  cases hq : dsl w with
  | nil => exact absurd hq h
  | cons c u => have := dsl_head w c u hq; simp [tkw, this]
theorem rdots {G : Nat → Nat} {d r a : Nat} {h : mH} {C : mQ} {X : mX} {s : List Int} {x1 x2 x3 x6 x7 : Option mV} (HR : RN r h) (rs : ro h (r + 17) a s) (hs1 : 0 < s.length) (hN : a + s.length ≤ 1000) (hd1 : ¬ s = [46]) (hd2 : ¬ s = [46, 46])
    (hz : wp G d 107 252 [some (.inr (.inl (some r))), x1, x2, x3, some (.inl (a : Int)), some (.inl ((a + s.length : Nat) : Int)), x6, x7] [] h 0 0 C X) :
    wp G d 107 165 [some (.inr (.inl (some r))), x1, x2, x3, some (.inl (a : Int)), some (.inl ((a + s.length : Nat) : Int)), x6, x7] [] h 0 0 C X := by
  have R0 := HR.1; have R_kinds := rn_kinds HR; have R_bitsOf := rn_bitsOf HR; have R_parents := rn_parents HR; have R_targets := rn_targets HR; have R_way := rn_way HR
  have c0 := rs 0 hs1
  simp only [Nat.add_zero] at c0
  have e1 : ((a : Int) + 1).toNat = a + 1 := by omega
  by_cases h1 : s.length = 1
  · have z0 : ¬ lf s 0 = 46 := fun z => hd1 (by rw [lf_one h1, z])
    have q1 : (((a + s.length : Nat) : Int) = (a : Int) + 1) = True := eq_true (by omega)
    have q2 : (((a + s.length : Nat) : Int) = (a : Int) + 2) = False := eq_false (by omega)
    (repeat' (first | with_reducible assumption | (refine And.intro ?_ ?_) | (with_reducible intro _) | (simp [wp_ne 252, wpE, mk_X11_walk, mg, mc_X11_walk, lget, lset, popN, cats, rcv, entL, isArr, kC_s, kC_n, st1, st2, st3, st4, st5, st6, st7, st8, st9, st10, st11, st12, st13, st14, st15, st16, st17, st18, st19, st20, st21, st22, st23, st24, st25, st26, st27, st28, st29, st30, st31, st32, st33, st34, st35, st36, st37, st38, st39, st40, st41, st42, st43, st44, st45, st46, st47, st48, st49, st50, st51, st52, st53, st54, st55, st56, st57, st58, st59, st60, st61, st62, st63, st64, st65, st66, st67, st68, st69, st70, st71, st72, st73, st74, st75, st76, st77, st78, st79, st80, st81, st82, st83, st84, st85, st86, st87, st88, st89, st90, st91, R0, R_kinds, R_bitsOf, R_parents, R_targets, R_way, -Int.natCast_add, q1, q2, c0, z0, inR]))) <;> (try (first | omega | exact hz))
  · have q1 : (((a + s.length : Nat) : Int) = (a : Int) + 1) = False := eq_false (by omega)
    by_cases h2 : s.length = 2
    · have c1 := rs 1 (by omega)
      have q2 : (((a + s.length : Nat) : Int) = (a : Int) + 2) = True := eq_true (by omega)
      by_cases z0 : lf s 0 = 46
      · have z1 : ¬ lf s 1 = 46 := fun z => hd2 (by rw [lf_two h2, z0, z])
        (repeat' (first | with_reducible assumption | (refine And.intro ?_ ?_) | (with_reducible intro _) | (simp [wp_ne 252, wpE, mk_X11_walk, mg, mc_X11_walk, lget, lset, popN, cats, rcv, entL, isArr, kC_s, kC_n, st1, st2, st3, st4, st5, st6, st7, st8, st9, st10, st11, st12, st13, st14, st15, st16, st17, st18, st19, st20, st21, st22, st23, st24, st25, st26, st27, st28, st29, st30, st31, st32, st33, st34, st35, st36, st37, st38, st39, st40, st41, st42, st43, st44, st45, st46, st47, st48, st49, st50, st51, st52, st53, st54, st55, st56, st57, st58, st59, st60, st61, st62, st63, st64, st65, st66, st67, st68, st69, st70, st71, st72, st73, st74, st75, st76, st77, st78, st79, st80, st81, st82, st83, st84, st85, st86, st87, st88, st89, st90, st91, R0, R_kinds, R_bitsOf, R_parents, R_targets, R_way, -Int.natCast_add, q1, q2, c0, z0, c1, z1, e1, inR]))) <;> (try (first | omega | exact hz))
      · (repeat' (first | with_reducible assumption | (refine And.intro ?_ ?_) | (with_reducible intro _) | (simp [wp_ne 252, wpE, mk_X11_walk, mg, mc_X11_walk, lget, lset, popN, cats, rcv, entL, isArr, kC_s, kC_n, st1, st2, st3, st4, st5, st6, st7, st8, st9, st10, st11, st12, st13, st14, st15, st16, st17, st18, st19, st20, st21, st22, st23, st24, st25, st26, st27, st28, st29, st30, st31, st32, st33, st34, st35, st36, st37, st38, st39, st40, st41, st42, st43, st44, st45, st46, st47, st48, st49, st50, st51, st52, st53, st54, st55, st56, st57, st58, st59, st60, st61, st62, st63, st64, st65, st66, st67, st68, st69, st70, st71, st72, st73, st74, st75, st76, st77, st78, st79, st80, st81, st82, st83, st84, st85, st86, st87, st88, st89, st90, st91, R0, R_kinds, R_bitsOf, R_parents, R_targets, R_way, -Int.natCast_add, q1, q2, c0, z0, inR]))) <;> (try (first | omega | exact hz))
    · have q2 : (((a + s.length : Nat) : Int) = (a : Int) + 2) = False := eq_false (by omega)
      (repeat' (first | with_reducible assumption | (refine And.intro ?_ ?_) | (with_reducible intro _) | (simp [wp_ne 252, wpE, mk_X11_walk, mg, mc_X11_walk, lget, lset, popN, cats, rcv, entL, isArr, kC_s, kC_n, st1, st2, st3, st4, st5, st6, st7, st8, st9, st10, st11, st12, st13, st14, st15, st16, st17, st18, st19, st20, st21, st22, st23, st24, st25, st26, st27, st28, st29, st30, st31, st32, st33, st34, st35, st36, st37, st38, st39, st40, st41, st42, st43, st44, st45, st46, st47, st48, st49, st50, st51, st52, st53, st54, st55, st56, st57, st58, st59, st60, st61, st62, st63, st64, st65, st66, st67, st68, st69, st70, st71, st72, st73, st74, st75, st76, st77, st78, st79, st80, st81, st82, st83, st84, st85, st86, st87, st88, st89, st90, st91, R0, R_kinds, R_bitsOf, R_parents, R_targets, R_way, -Int.natCast_add, q1, q2, inR]))) <;> (try (first | omega | exact hz))
theorem walk_loop {G : Nat → Nat} {d r : Nat} {C : mQ} {X : mX} {T : aT} {Es : Nat → List aE} {here : Nat} {fol : Bool} (hd : 3 ≤ d) (hW : wfW T) (hU : ∀ n v, n < 48 → T n = some v → unq (nE v)) : ∀ (f : Nat) (h : mH) (nd lk : Nat) (cm : aC) (w : List Int) (a : Nat) (x5 x6 x7 : Option mV), w.length + 40 * (8 - lk) < f → RN r h → RT r h T Es here → lk ≤ 8 → nd < 48 → hvi h r 25 = ((a + w.length : Nat) : Int) → a + w.length ≤ 100 + 40 * lk → ro h (r + 17) a w → bd w → (w = [] → 0 < a ∧ ¬ hvi h (r + 17) (a - 1) = 47) → cmR r h Es nd cm →
    (∀ h', chJ (sR r [17, 18, 125, 126]) h h' → (∀ (n : Nat) c, wk T fol f nd lk cm w = ((n : Int), c) → n < 48 ∧ cmR r h' Es n c) → C (some (.inl (wk T fol f nd lk cm w).1)) h') →
    wp G d 107 100040 [some (.inr (.inl (some r))), some (.inl (b01 fol)), some (.inl (nd : Int)), some (.inl (lk : Int)), some (.inl (a : Int)), x5, x6, x7] [] h 0 0 C X := by
  have hd0 : (0 < d) = True := eq_true (by omega)
  intro f
  induction f with
  | zero => intro h nd lk cm w a x5 x6 x7 hf; omega
  | succ f ih =>
    intro h nd lk cm w a x5 x6 x7 hf HR HT hlk hnd h25 ha hr bw hw0 hcm hC
    have R0 := HR.1; have R_kinds := rn_kinds HR; have R_bitsOf := rn_bitsOf HR; have R_parents := rn_parents HR; have R_targets := rn_targets HR; have R_way := rn_way HR
    obtain ⟨g1, g2, g3⟩ := HT
    have HT : RT r h T Es here := ⟨g1, g2, g3⟩
    obtain ⟨W, hWW⟩ : ∃ W, W = a + w.length := ⟨_, rfl⟩
    rw [← hWW] at h25 ha
    refine rdsl_loop HR h25 (by omega) w a hWW.symm hr (fun a1 ha1 => ?_)
    simp only [wk] at hC
    have gk := g2 nd hnd
    have hl1 := dsl_len w
    by_cases hw : dsl w = []
    · rw [if_pos hw] at hC
      have hW1 : a1 = W := by rw [hw] at ha1; simpa using ha1
      have e1 : ((W : Int) - 1).toNat = W - 1 := by omega
      by_cases hwn : w = []
      · obtain ⟨p1, p2⟩ := hw0 hwn
        rw [if_neg (by simp [hwn])] at hC
        have hz := hC h chJ_refl (fun n c q => by cases q; exact ⟨hnd, hcm⟩)
        have hWa : W = a := by rw [hwn] at hWW; simpa using hWW
        rw [← hWa] at p2
        (repeat' (first | with_reducible assumption | (refine And.intro ?_ ?_) | (with_reducible intro _) | (simp [wp_eq, wpE, mk_X11_walk, mg, mc_X11_walk, lget, lset, popN, cats, rcv, entL, isArr, kC_s, kC_n, st1, st2, st3, st4, st5, st6, st7, st8, st9, st10, st11, st12, st13, st14, st15, st16, st17, st18, st19, st20, st21, st22, st23, st24, st25, st26, st27, st28, st29, st30, st31, st32, st33, st34, st35, st36, st37, st38, st39, st40, st41, st42, st43, st44, st45, st46, st47, st48, st49, st50, st51, st52, st53, st54, st55, st56, st57, st58, st59, st60, st61, st62, st63, st64, st65, st66, st67, st68, st69, st70, st71, st72, st73, st74, st75, st76, st77, st78, st79, st80, st81, st82, st83, st84, st85, st86, st87, st88, st89, st90, st91, R0, R_kinds, R_bitsOf, R_parents, R_targets, R_way, h25, hW1, e1, p2, inR]))) <;> (try (first | omega | exact hz))
      · have hwl : 0 < w.length := Nat.pos_of_ne_zero (fun q => hwn (List.length_eq_zero_iff.mp q))
        have p2 : hvi h (r + 17) (W - 1) = 47 := by
          have := hr (w.length - 1) (by omega)
          rw [dsl_nil hw _ (by omega)] at this
          rw [← this]; congr 1; omega
        by_cases hk : tK T nd = 0
        · rw [if_neg (by simp [hk])] at hC
          have hz := hC h chJ_refl (fun n c q => by cases q; exact ⟨hnd, hcm⟩)
          (repeat' (first | with_reducible assumption | (refine And.intro ?_ ?_) | (with_reducible intro _) | (simp [wp_eq, wpE, mk_X11_walk, mg, mc_X11_walk, lget, lset, popN, cats, rcv, entL, isArr, kC_s, kC_n, st1, st2, st3, st4, st5, st6, st7, st8, st9, st10, st11, st12, st13, st14, st15, st16, st17, st18, st19, st20, st21, st22, st23, st24, st25, st26, st27, st28, st29, st30, st31, st32, st33, st34, st35, st36, st37, st38, st39, st40, st41, st42, st43, st44, st45, st46, st47, st48, st49, st50, st51, st52, st53, st54, st55, st56, st57, st58, st59, st60, st61, st62, st63, st64, st65, st66, st67, st68, st69, st70, st71, st72, st73, st74, st75, st76, st77, st78, st79, st80, st81, st82, st83, st84, st85, st86, st87, st88, st89, st90, st91, R0, R_kinds, R_bitsOf, R_parents, R_targets, R_way, h25, hW1, e1, p2, gk, hk, inR]))) <;> (try (first | omega | exact hz))
        · rw [if_pos ⟨hwn, hk⟩] at hC
          have hz := hC h chJ_refl (fun n c q => by cases q)
          (repeat' (first | with_reducible assumption | (refine And.intro ?_ ?_) | (with_reducible intro _) | (simp [wp_eq, wpE, mk_X11_walk, mg, mc_X11_walk, lget, lset, popN, cats, rcv, entL, isArr, kC_s, kC_n, st1, st2, st3, st4, st5, st6, st7, st8, st9, st10, st11, st12, st13, st14, st15, st16, st17, st18, st19, st20, st21, st22, st23, st24, st25, st26, st27, st28, st29, st30, st31, st32, st33, st34, st35, st36, st37, st38, st39, st40, st41, st42, st43, st44, st45, st46, st47, st48, st49, st50, st51, st52, st53, st54, st55, st56, st57, st58, st59, st60, st61, st62, st63, st64, st65, st66, st67, st68, st69, st70, st71, st72, st73, st74, st75, st76, st77, st78, st79, st80, st81, st82, st83, st84, st85, st86, st87, st88, st89, st90, st91, R0, R_kinds, R_bitsOf, R_parents, R_targets, R_way, h25, hW1, e1, p2, gk, hk, inR]))) <;> (try (first | omega | exact hz))
    · rw [if_neg hw] at hC
      have hs1 := tkw_pos hw
      have htd := tkw_drw (dsl w)
      have htn := tkw_no (dsl w)
      have bw1 := bd_dsl bw
      have hr1 : ro h (r + 17) a1 (dsl w) := by
        obtain ⟨u, hu⟩ := dsl_suf w
        have hlen : w.length = u.length + (dsl w).length := by rw [← List.length_append, ← hu]
        have h2 := hr
        rw [hu] at h2
        have h3 := ro_r h2
        rw [show a1 = a + u.length by omega]
        exact h3
      generalize hw1 : dsl w = w1 at *
      have hw1l : 0 < w1.length := Nat.pos_of_ne_zero (fun q => hw (List.length_eq_zero_iff.mp q))
      have hne : ¬ (a1 : Int) = (W : Int) := by omega
      simp [wp_ne 139, wpE, mk_X11_walk, mg, mc_X11_walk, lget, lset, popN, cats, rcv, entL, isArr, kC_s, kC_n, st1, st2, st3, st4, st5, st6, st7, st8, st9, st10, st11, st12, st13, st14, st15, st16, st17, st18, st19, st20, st21, st22, st23, st24, st25, st26, st27, st28, st29, st30, st31, st32, st33, st34, st35, st36, st37, st38, st39, st40, st41, st42, st43, st44, st45, st46, st47, st48, st49, st50, st51, st52, st53, st54, st55, st56, st57, st58, st59, st60, st61, st62, st63, st64, st65, st66, st67, st68, st69, st70, st71, st72, st73, st74, st75, st76, st77, st78, st79, st80, st81, st82, st83, st84, st85, st86, st87, st88, st89, st90, st91, R0, R_way, h25, hne]
      refine rdrw_loop HR h25 (by omega) w1 a1 ha1 hr1 (fun e he => ?_)
      generalize hs : tkw w1 = s at *
      generalize hrr : drw w1 = rr at *
      have hlen : w1.length = s.length + rr.length := by rw [← htd]; simp
      have he2 : e = a1 + s.length := by omega
      have rs : ro h (r + 17) a1 s := ro_l (w := rr) (by rw [htd]; exact hr1)
      have rrr : ro h (r + 17) e rr := by rw [he2]; exact ro_r (u := s) (by rw [htd]; exact hr1)
      have bs : bd s := bd_l (b := rr) (by rw [htd]; exact bw1)
      have br : bd rr := bd_r (a := s) (by rw [htd]; exact bw1)
      have hend : rr = [] → 0 < e ∧ ¬ hvi h (r + 17) (e - 1) = 47 := by
        intro _
        refine ⟨by omega, ?_⟩
        have := rs (s.length - 1) (by omega)
        rw [show e - 1 = a1 + (s.length - 1) by omega, this]
        exact htn _ (by omega)
      cases hT : T nd with
      | none =>
        have hk : ¬ tK T nd = 0 := by simp [tK, hT]
        have hst : stp T fol nd lk w1 = .inl (-3) := by simp [stp, hk]
        rw [hst] at hC
        have hz := hC h chJ_refl (fun n c q => by cases q)
        (repeat' (first | with_reducible assumption | (refine And.intro ?_ ?_) | (with_reducible intro _) | (simp [wp_eq, wpE, mk_X11_walk, mg, mc_X11_walk, lget, lset, popN, cats, rcv, entL, isArr, kC_s, kC_n, st1, st2, st3, st4, st5, st6, st7, st8, st9, st10, st11, st12, st13, st14, st15, st16, st17, st18, st19, st20, st21, st22, st23, st24, st25, st26, st27, st28, st29, st30, st31, st32, st33, st34, st35, st36, st37, st38, st39, st40, st41, st42, st43, st44, st45, st46, st47, st48, st49, st50, st51, st52, st53, st54, st55, st56, st57, st58, st59, st60, st61, st62, st63, st64, st65, st66, st67, st68, st69, st70, st71, st72, st73, st74, st75, st76, st77, st78, st79, st80, st81, st82, st83, st84, st85, st86, st87, st88, st89, st90, st91, R0, R_kinds, R_bitsOf, R_parents, R_targets, R_way, gk, hk]))) <;> (try (first | omega | exact hz))
      | some v =>
        have hK : tK T nd = nK v := by simp [tK, hT]
        have hB : tB T nd = nB v := by simp [tB, hT]
        have hE : tE T nd = nE v := by simp [tE, hT]
        have hA : tA T nd = nA v := by simp [tA, hT]
        by_cases hk : tK T nd = 0
        · have hwv := hW nd v hnd hT
          obtain ⟨f1, f2, f3, f4, f5⟩ := g3 nd v hnd hT
          obtain ⟨k1, k2, k3, k4⟩ := f4 (by rw [← hK]; exact hk)
          have hk3 := k3
          obtain ⟨m1, m2, m3⟩ := hk3
          have hbit : hvi h (r + 5) nd = tB T nd := by rw [k1, hB]
          by_cases hb : bAnd (tB T nd) 1 = 0
          · have hst : stp T fol nd lk w1 = .inl (-4) := by simp [stp, hk, hb]
            rw [hst] at hC
            have hz := hC h chJ_refl (fun n c q => by cases q)
            (repeat' (first | with_reducible assumption | (refine And.intro ?_ ?_) | (with_reducible intro _) | (simp [wp_eq, wpE, mk_X11_walk, mg, mc_X11_walk, lget, lset, popN, cats, rcv, entL, isArr, kC_s, kC_n, st1, st2, st3, st4, st5, st6, st7, st8, st9, st10, st11, st12, st13, st14, st15, st16, st17, st18, st19, st20, st21, st22, st23, st24, st25, st26, st27, st28, st29, st30, st31, st32, st33, st34, st35, st36, st37, st38, st39, st40, st41, st42, st43, st44, st45, st46, st47, st48, st49, st50, st51, st52, st53, st54, st55, st56, st57, st58, st59, st60, st61, st62, st63, st64, st65, st66, st67, st68, st69, st70, st71, st72, st73, st74, st75, st76, st77, st78, st79, st80, st81, st82, st83, st84, st85, st86, st87, st88, st89, st90, st91, R0, R_kinds, R_bitsOf, R_parents, R_targets, R_way, gk, hk, hbit, hb]))) <;> (try (first | omega | exact hz))
          · have c0 := rs 0 hs1
            simp only [Nat.add_zero] at c0
            have hq1 : chJ (sR r [17, 18, 125, 126]) h (hsetI h r 26 (-1)) := chJ_set (by simp [sR])
            by_cases hd1 : s = [46]
            · have hst : stp T fol nd lk w1 = .inr (nd, lk, none, rr) := by simp [stp, hk, hb, hs, hd1, hrr]
              rw [hst] at hC
              have hz := fun x5 x6 x7 => ih (hsetI h r 26 (-1)) nd lk none rr e x5 x6 x7 (by omega) (RN_ch hq1 HR) (RT_ch hq1 (by simp) HT) hlk hnd (by simp [hty_I, hvi_I, hvr_I, hvl_I, hsz_I, hty_R, hvi_R, hvr_R, hvl_R, hsz_R, hty_L, hvi_L, hvr_L, hvl_L, hsz_L, hty_P, hvi_P, hvr_P, hvl_P, hsz_P, hty_C, hvi_C, hvr_C, hvl_C, hsz_C]; rw [h25]; omega) (by omega) (fun i hi => by simp [hty_I, hvi_I, hvr_I, hvl_I, hsz_I, hty_R, hvi_R, hvr_R, hvl_R, hsz_R, hty_L, hvi_L, hvr_L, hvl_L, hsz_L, hty_P, hvi_P, hvr_P, hvl_P, hsz_P, hty_C, hvi_C, hvr_C, hvl_C, hsz_C]; exact rrr i hi) br (fun q => by have := hend q; simpa [hty_I, hvi_I, hvr_I, hvl_I, hsz_I, hty_R, hvi_R, hvr_R, hvl_R, hsz_R, hty_L, hvi_L, hvr_L, hvl_L, hsz_L, hty_P, hvi_P, hvr_P, hvl_P, hsz_P, hty_C, hvi_C, hvr_C, hvl_C, hsz_C] using this) (by simp [cmR, hty_I, hvi_I, hvr_I, hvl_I, hsz_I, hty_R, hvi_R, hvr_R, hvl_R, hsz_R, hty_L, hvi_L, hvr_L, hvl_L, hsz_L, hty_P, hvi_P, hvr_P, hvl_P, hsz_P, hty_C, hvi_C, hvr_C, hvl_C, hsz_C]) (fun h' q1 q2 => hC h' (chJ_trans hq1 q1) q2)
              have c46 : lf s 0 = 46 := by rw [hd1]; rfl
              have hel : e = a1 + 1 := by rw [he2, hd1]; rfl
              (repeat' (first | with_reducible assumption | (refine hz _ _ _) | (refine And.intro ?_ ?_) | (with_reducible intro _) | (simp [wp_eq, wpE, mk_X11_walk, mg, mc_X11_walk, lget, lset, popN, cats, rcv, entL, isArr, kC_s, kC_n, st1, st2, st3, st4, st5, st6, st7, st8, st9, st10, st11, st12, st13, st14, st15, st16, st17, st18, st19, st20, st21, st22, st23, st24, st25, st26, st27, st28, st29, st30, st31, st32, st33, st34, st35, st36, st37, st38, st39, st40, st41, st42, st43, st44, st45, st46, st47, st48, st49, st50, st51, st52, st53, st54, st55, st56, st57, st58, st59, st60, st61, st62, st63, st64, st65, st66, st67, st68, st69, st70, st71, st72, st73, st74, st75, st76, st77, st78, st79, st80, st81, st82, st83, st84, st85, st86, st87, st88, st89, st90, st91, R0, R_kinds, R_bitsOf, R_parents, R_targets, R_way, gk, hk, hbit, hb, hel, c0, c46, inR]))) <;> (try (first | omega | exact hz))
              all_goals (rw [hel] at hz; exact hz _ _ _)
            · by_cases hd2 : s = [46, 46]
              · have hst : stp T fol nd lk w1 = .inr (nA v, lk, none, rr) := by simp [stp, hk, hb, hs, hd2, hrr, hA]
                rw [hst] at hC
                have hz := fun x5 x6 x7 => ih (hsetI h r 26 (-1)) (nA v) lk none rr e x5 x6 x7 (by omega) (RN_ch hq1 HR) (RT_ch hq1 (by simp) HT) hlk hwv.2.1 (by simp [hty_I, hvi_I, hvr_I, hvl_I, hsz_I, hty_R, hvi_R, hvr_R, hvl_R, hsz_R, hty_L, hvi_L, hvr_L, hvl_L, hsz_L, hty_P, hvi_P, hvr_P, hvl_P, hsz_P, hty_C, hvi_C, hvr_C, hvl_C, hsz_C]; rw [h25]; omega) (by omega) (fun i hi => by simp [hty_I, hvi_I, hvr_I, hvl_I, hsz_I, hty_R, hvi_R, hvr_R, hvl_R, hsz_R, hty_L, hvi_L, hvr_L, hvl_L, hsz_L, hty_P, hvi_P, hvr_P, hvl_P, hsz_P, hty_C, hvi_C, hvr_C, hvl_C, hsz_C]; exact rrr i hi) br (fun q => by have := hend q; simpa [hty_I, hvi_I, hvr_I, hvl_I, hsz_I, hty_R, hvi_R, hvr_R, hvl_R, hsz_R, hty_L, hvi_L, hvr_L, hvl_L, hsz_L, hty_P, hvi_P, hvr_P, hvl_P, hsz_P, hty_C, hvi_C, hvr_C, hvl_C, hsz_C] using this) (by simp [cmR, hty_I, hvi_I, hvr_I, hvl_I, hsz_I, hty_R, hvi_R, hvr_R, hvl_R, hsz_R, hty_L, hvi_L, hvr_L, hvl_L, hsz_L, hty_P, hvi_P, hvr_P, hvl_P, hsz_P, hty_C, hvi_C, hvr_C, hvl_C, hsz_C]) (fun h' q1 q2 => hC h' (chJ_trans hq1 q1) q2)
                have c1 := rs 1 (by rw [hd2]; decide)
                have c46 : lf s 0 = 46 := by rw [hd2]; rfl
                have c461 : lf s 1 = 46 := by rw [hd2]; rfl
                have hel : e = a1 + 2 := by rw [he2, hd2]; rfl
                have e1 : ((a1 : Int) + 1).toNat = a1 + 1 := by omega
                (repeat' (first | with_reducible assumption | (refine hz _ _ _) | (refine And.intro ?_ ?_) | (with_reducible intro _) | (simp [wp_eq, wpE, mk_X11_walk, mg, mc_X11_walk, lget, lset, popN, cats, rcv, entL, isArr, kC_s, kC_n, st1, st2, st3, st4, st5, st6, st7, st8, st9, st10, st11, st12, st13, st14, st15, st16, st17, st18, st19, st20, st21, st22, st23, st24, st25, st26, st27, st28, st29, st30, st31, st32, st33, st34, st35, st36, st37, st38, st39, st40, st41, st42, st43, st44, st45, st46, st47, st48, st49, st50, st51, st52, st53, st54, st55, st56, st57, st58, st59, st60, st61, st62, st63, st64, st65, st66, st67, st68, st69, st70, st71, st72, st73, st74, st75, st76, st77, st78, st79, st80, st81, st82, st83, st84, st85, st86, st87, st88, st89, st90, st91, R0, R_kinds, R_bitsOf, R_parents, R_targets, R_way, gk, hk, hbit, hb, hel, c0, c46, c1, c461, e1, k2, hty_I, hvi_I, hvr_I, hvl_I, hsz_I, hty_R, hvi_R, hvr_R, hvl_R, hsz_R, hty_L, hvi_L, hvr_L, hvl_L, hsz_L, hty_P, hvi_P, hvr_P, hvl_P, hsz_P, hty_C, hvi_C, hvr_C, hvl_C, hsz_C, inR]))) <;> (try (first | omega | exact hz))
                all_goals (rw [hel] at hz; exact hz _ _ _)
              · skip
                have hpm := lkE_perm (s := s) k4 (unq_perm k4.symm (hU nd v hnd hT))
                subst he2
                simp [wp_ne 165, wpE, mk_X11_walk, mg, mc_X11_walk, lget, lset, popN, cats, rcv, entL, isArr, kC_s, kC_n, st1, st2, st3, st4, st5, st6, st7, st8, st9, st10, st11, st12, st13, st14, st15, st16, st17, st18, st19, st20, st21, st22, st23, st24, st25, st26, st27, st28, st29, st30, st31, st32, st33, st34, st35, st36, st37, st38, st39, st40, st41, st42, st43, st44, st45, st46, st47, st48, st49, st50, st51, st52, st53, st54, st55, st56, st57, st58, st59, st60, st61, st62, st63, st64, st65, st66, st67, st68, st69, st70, st71, st72, st73, st74, st75, st76, st77, st78, st79, st80, st81, st82, st83, st84, st85, st86, st87, st88, st89, st90, st91, R0, R_kinds, R_bitsOf, gk, hk, hbit, hb, -Int.natCast_add]
                refine ⟨by omega, rdots HR rs hs1 (by omega) hd1 hd2 ?_⟩
                cases hix : ixF s 0 (Es nd) with
                | none =>
                  have hst : stp T fol nd lk w1 = .inl (-2) := by simp [stp, hk, hb, hs, hd1, hd2, hE, ← hpm, ixF_none _ _ _ hix]
                  rw [hst] at hC
                  have hz := hC h chJ_refl (fun n c q => by cases q)
                  have hixr : ixR nd (ixF s 0 (Es nd)) = -1 := by rw [hix]; rfl
                  (repeat' (first | with_reducible assumption | (refine r_nameAt (by omega) hnd HR k3 bs R_way.2 (by omega) (by omega) rs ?_) | (refine And.intro ?_ ?_) | (with_reducible intro _) | (simp [wp_eq, wpE, mk_X11_walk, mg, mc_X11_walk, lget, lset, popN, cats, rcv, entL, isArr, kC_s, kC_n, st1, st2, st3, st4, st5, st6, st7, st8, st9, st10, st11, st12, st13, st14, st15, st16, st17, st18, st19, st20, st21, st22, st23, st24, st25, st26, st27, st28, st29, st30, st31, st32, st33, st34, st35, st36, st37, st38, st39, st40, st41, st42, st43, st44, st45, st46, st47, st48, st49, st50, st51, st52, st53, st54, st55, st56, st57, st58, st59, st60, st61, st62, st63, st64, st65, st66, st67, st68, st69, st70, st71, st72, st73, st74, st75, st76, st77, st78, st79, st80, st81, st82, st83, st84, st85, st86, st87, st88, st89, st90, st91, R0, R_kinds, R_bitsOf, R_parents, R_targets, R_way, -Int.natCast_add, hd0, hixr, inR]))) <;> (try (first | omega | exact hz))
                | some k =>
                  obtain ⟨n, j, p1, p2, p3⟩ := ixF_some _ _ _ _ hix
                  rw [Nat.zero_add] at p1
                  subst p1
                  obtain ⟨q1, q2, q3, q4, q5, q6⟩ := m3 k _ p2
                  have q1 : hvi h (r + 10) (12 * nd + k) = (n : Int) := q1
                  have q6 : n < 48 := q6
                  have hkl := (List.getElem?_eq_some_iff.mp p2).1
                  have hixr : ixR nd (ixF s 0 (Es nd)) = ((12 * nd + k : Nat) : Int) := by rw [hix]; rfl
                  have gn := g2 n q6
                  rw [hpm] at p3
                  obtain ⟨u, gu⟩ := hwv.1 _ (lkE_mem p3)
                  have gu : T n = some u := gu
                  have hKn : tK T n = nK u := by simp [tK, gu]
                  have hXn : tX T n = nX u := by simp [tX, gu]
                  have hx2 := (hW n u q6 gu).2.2
                  obtain ⟨-, -, -, -, l5⟩ := g3 n u q6 gu
                  have e3 : ((12 * nd + k : Nat) : Int).toNat = 12 * nd + k := by omega
                  by_cases hfl : tK T n = 2 ∧ (fol = true ∨ ¬ rr = [])
                  · have hrl : ¬ rr = [] → ((a1 + s.length : Nat) : Int) < (W : Int) := fun q => by have : ¬ rr.length = 0 := (fun z => q (List.length_eq_zero_iff.mp z)); omega
                    have hpos : (fol = true ∨ (((a1 + s.length : Nat) : Int) < (W : Int))) := hfl.2.imp id hrl
                    have hk2 := hfl.1
                    obtain ⟨y1, y2, y3, y4⟩ := l5 (by rw [← hKn]; exact hk2)
                    have hxn := hx2 (by rw [← hKn]; exact hk2)
                    by_cases h8 : lk = 8
                    · have hst : stp T fol nd lk w1 = .inl (-5) := by simp only [stp, hk, hb, hs, hd1, hd2, hE, p3, hrr, hfl, if_false, if_true, not_true, not_false_eq_true]; simp [h8, hfl]
                      rw [hst] at hC
                      have hz := hC h chJ_refl (fun n c q => by cases q)
                      cases fol
                      all_goals
                        (repeat' (first | with_reducible assumption | (refine r_nameAt (by omega) hnd HR k3 bs R_way.2 (by omega) (by omega) rs ?_) | (refine And.intro ?_ ?_) | (with_reducible intro _) | (simp [wp_eq, wpE, mk_X11_walk, mg, mc_X11_walk, lget, lset, popN, cats, rcv, entL, isArr, kC_s, kC_n, st1, st2, st3, st4, st5, st6, st7, st8, st9, st10, st11, st12, st13, st14, st15, st16, st17, st18, st19, st20, st21, st22, st23, st24, st25, st26, st27, st28, st29, st30, st31, st32, st33, st34, st35, st36, st37, st38, st39, st40, st41, st42, st43, st44, st45, st46, st47, st48, st49, st50, st51, st52, st53, st54, st55, st56, st57, st58, st59, st60, st61, st62, st63, st64, st65, st66, st67, st68, st69, st70, st71, st72, st73, st74, st75, st76, st77, st78, st79, st80, st81, st82, st83, st84, st85, st86, st87, st88, st89, st90, st91, R0, R_kinds, R_bitsOf, R_parents, R_targets, R_way, -Int.natCast_add, -Int.natCast_mul, hd0, hixr, e3, q1, gn, hk2, h25, h8, b01, inR]))) <;> (try (first | omega | exact hz))
                        all_goals (first | (exfalso; omega) | (exfalso; simp at hpos; omega))
                    · have hst : stp T fol nd lk w1 = .inr (if lf (nX u ++ rr) 0 = 47 then 0 else nd, lk + 1, none, nX u ++ rr) := by simp only [stp, hk, hb, hs, hd1, hd2, hE, p3, hrr, hXn, hfl, if_false, if_true, not_true, not_false_eq_true]; simp [show ¬ 8 ≤ lk by omega, hfl]
                      rw [hst] at hC
                      have hg : wp G d 107 308 [some (.inr (.inl (some r))), some (.inl (b01 fol)), some (.inl (nd : Int)), some (.inl (lk : Int)), some (.inl (a1 : Int)), some (.inl ((a1 + s.length : Nat) : Int)), some (.inl ((12 * nd + k : Nat) : Int)), some (.inl (n : Int))] [] h 0 0 C X := by
                        have h9 : ¬ (lk : Int) + 1 = 9 := by omega
                        simp [wp_eq, wpE, mk_X11_walk, mg, mc_X11_walk, lget, lset, popN, cats, rcv, entL, isArr, kC_s, kC_n, st1, st2, st3, st4, st5, st6, st7, st8, st9, st10, st11, st12, st13, st14, st15, st16, st17, st18, st19, st20, st21, st22, st23, st24, st25, st26, st27, st28, st29, st30, st31, st32, st33, st34, st35, st36, st37, st38, st39, st40, st41, st42, st43, st44, st45, st46, st47, st48, st49, st50, st51, st52, st53, st54, st55, st56, st57, st58, st59, st60, st61, st62, st63, st64, st65, st66, st67, st68, st69, st70, st71, st72, st73, st74, st75, st76, st77, st78, st79, st80, st81, st82, st83, st84, st85, st86, st87, st88, st89, st90, st91, R0, hd0, h9, inR, -Int.natCast_add, -Int.natCast_mul]
                        refine ⟨by omega, r_layText HR q6 y1 y2 y3 y4 br rrr (by rw [h25]; omega) (by omega) (fun h1 z1 z2 z3 => ?_)⟩
                        have HR1 := RN_ch z1 HR
                        have R0b := HR1.1; have R_kindsb := rn_kinds HR1; have R_bitsOfb := rn_bitsOf HR1; have R_parentsb := rn_parents HR1; have R_targetsb := rn_targets HR1; have R_wayb := rn_way HR1
                        have hxl : 0 < (nX u).length := Nat.pos_of_ne_zero (fun q => hxn (List.length_eq_zero_iff.mp q))
                        have hlx : (nX u ++ rr).length = (nX u).length + rr.length := by simp
                        have c0 : hvi h1 (r + 17) 0 = lf (nX u ++ rr) 0 := by have := z3 0 (by omega); simpa using this
                        have hq3 : chJ (sR r [17, 18, 125, 126]) h (hsetI h1 r 26 (-1)) := chJ_trans (chJ_sub z1 (by simp)) (chJ_set (by simp [sR]))
                        have hz := fun x5 x6 x7 => ih (hsetI h1 r 26 (-1)) (if lf (nX u ++ rr) 0 = 47 then 0 else nd) (lk + 1) none (nX u ++ rr) 0 x5 x6 x7 (by omega) (RN_ch hq3 HR) (RT_ch hq3 (by simp) HT) (by omega) (by split <;> omega) (by simp only [hvi_I]; rw [if_neg (by omega), Nat.zero_add]; exact z2) (by omega) (fun i hi => by simp only [hvi_I]; rw [if_neg (by omega)]; exact z3 i hi) (bd_app y3 br) (fun q => by rw [q] at hlx; simp at hlx; omega) (by simp [cmR, hty_I, hvi_I, hvr_I, hvl_I, hsz_I, hty_R, hvi_R, hvr_R, hvl_R, hsz_R, hty_L, hvi_L, hvr_L, hvl_L, hsz_L, hty_P, hvi_P, hvr_P, hvl_P, hsz_P, hty_C, hvi_C, hvr_C, hvl_C, hsz_C]) (fun h' q1 q2 => hC h' (chJ_trans hq3 q1) q2)
                        by_cases h47 : lf (nX u ++ rr) 0 = 47
                        · rw [if_pos h47] at hz
                          (repeat' (first | with_reducible assumption | (refine And.intro ?_ ?_) | (with_reducible intro _) | (simp [wp_eq, wpE, mk_X11_walk, mg, mc_X11_walk, lget, lset, popN, cats, rcv, entL, isArr, kC_s, kC_n, st1, st2, st3, st4, st5, st6, st7, st8, st9, st10, st11, st12, st13, st14, st15, st16, st17, st18, st19, st20, st21, st22, st23, st24, st25, st26, st27, st28, st29, st30, st31, st32, st33, st34, st35, st36, st37, st38, st39, st40, st41, st42, st43, st44, st45, st46, st47, st48, st49, st50, st51, st52, st53, st54, st55, st56, st57, st58, st59, st60, st61, st62, st63, st64, st65, st66, st67, st68, st69, st70, st71, st72, st73, st74, st75, st76, st77, st78, st79, st80, st81, st82, st83, st84, st85, st86, st87, st88, st89, st90, st91, R0b, R_kindsb, R_bitsOfb, R_parentsb, R_targetsb, R_wayb, -Int.natCast_add, -Int.natCast_mul, c0, h47]))) <;> (try (first | omega | exact hz))
                          all_goals exact hz _ _ _
                        · rw [if_neg h47] at hz
                          (repeat' (first | with_reducible assumption | (refine And.intro ?_ ?_) | (with_reducible intro _) | (simp [wp_eq, wpE, mk_X11_walk, mg, mc_X11_walk, lget, lset, popN, cats, rcv, entL, isArr, kC_s, kC_n, st1, st2, st3, st4, st5, st6, st7, st8, st9, st10, st11, st12, st13, st14, st15, st16, st17, st18, st19, st20, st21, st22, st23, st24, st25, st26, st27, st28, st29, st30, st31, st32, st33, st34, st35, st36, st37, st38, st39, st40, st41, st42, st43, st44, st45, st46, st47, st48, st49, st50, st51, st52, st53, st54, st55, st56, st57, st58, st59, st60, st61, st62, st63, st64, st65, st66, st67, st68, st69, st70, st71, st72, st73, st74, st75, st76, st77, st78, st79, st80, st81, st82, st83, st84, st85, st86, st87, st88, st89, st90, st91, R0b, R_kindsb, R_bitsOfb, R_parentsb, R_targetsb, R_wayb, -Int.natCast_add, -Int.natCast_mul, c0, h47]))) <;> (try (first | omega | exact hz))
                          all_goals exact hz _ _ _
                      by_cases hlt : ((a1 + s.length : Nat) : Int) < (W : Int)
                      · (repeat' (first | with_reducible assumption | (refine r_nameAt (by omega) hnd HR k3 bs R_way.2 (by omega) (by omega) rs ?_) | (refine And.intro ?_ ?_) | (with_reducible intro _) | (simp [wp_ne 308, wpE, mk_X11_walk, mg, mc_X11_walk, lget, lset, popN, cats, rcv, entL, isArr, kC_s, kC_n, st1, st2, st3, st4, st5, st6, st7, st8, st9, st10, st11, st12, st13, st14, st15, st16, st17, st18, st19, st20, st21, st22, st23, st24, st25, st26, st27, st28, st29, st30, st31, st32, st33, st34, st35, st36, st37, st38, st39, st40, st41, st42, st43, st44, st45, st46, st47, st48, st49, st50, st51, st52, st53, st54, st55, st56, st57, st58, st59, st60, st61, st62, st63, st64, st65, st66, st67, st68, st69, st70, st71, st72, st73, st74, st75, st76, st77, st78, st79, st80, st81, st82, st83, st84, st85, st86, st87, st88, st89, st90, st91, R0, R_kinds, R_bitsOf, R_parents, R_targets, R_way, -Int.natCast_add, -Int.natCast_mul, hd0, hixr, e3, q1, gn, hk2, h25, hlt, inR]))) <;> (try (first | omega | exact hz))
                      · have hft : fol = true := hpos.resolve_right hlt
                        rw [hft] at hg ⊢
                        (repeat' (first | with_reducible assumption | (refine r_nameAt (by omega) hnd HR k3 bs R_way.2 (by omega) (by omega) rs ?_) | (refine And.intro ?_ ?_) | (with_reducible intro _) | (simp [wp_ne 308, wpE, mk_X11_walk, mg, mc_X11_walk, lget, lset, popN, cats, rcv, entL, isArr, kC_s, kC_n, st1, st2, st3, st4, st5, st6, st7, st8, st9, st10, st11, st12, st13, st14, st15, st16, st17, st18, st19, st20, st21, st22, st23, st24, st25, st26, st27, st28, st29, st30, st31, st32, st33, st34, st35, st36, st37, st38, st39, st40, st41, st42, st43, st44, st45, st46, st47, st48, st49, st50, st51, st52, st53, st54, st55, st56, st57, st58, st59, st60, st61, st62, st63, st64, st65, st66, st67, st68, st69, st70, st71, st72, st73, st74, st75, st76, st77, st78, st79, st80, st81, st82, st83, st84, st85, st86, st87, st88, st89, st90, st91, R0, R_kinds, R_bitsOf, R_parents, R_targets, R_way, -Int.natCast_add, -Int.natCast_mul, hd0, hixr, e3, q1, gn, hk2, h25, hlt, b01, inR]))) <;> (try (first | omega | exact hz))
                        all_goals (simp only [b01] at hg; exact hg)
                  · have hst : stp T fol nd lk w1 = .inr (n, lk, some (nd, s), rr) := by simp only [stp, hk, hb, hs, hd1, hd2, hE, p3, hrr, hfl, if_false, if_true, not_true, not_false_eq_true]
                    rw [hst] at hC
                    have hq2 : chJ (sR r [17, 18, 125, 126]) h (hsetI h r 26 ((12 * nd + k : Nat) : Int)) := chJ_set (by simp [sR])
                    have hz := fun x5 x6 x7 => ih (hsetI h r 26 ((12 * nd + k : Nat) : Int)) n lk (some (nd, s)) rr (a1 + s.length) x5 x6 x7 (by omega) (RN_ch hq2 HR) (RT_ch hq2 (by simp) HT) hlk q6 (by simp only [hvi_I]; rw [if_neg (by omega), h25]; omega) (by omega) (fun i hi => by simp only [hvi_I]; rw [if_neg (by omega)]; exact rrr i hi) br (fun q => by have := hend q; simp only [hvi_I]; rw [if_neg (by omega)]; exact this) ⟨k, hnd, by omega, by simp [hty_I, hvi_I, hvr_I, hvl_I, hsz_I, hty_R, hvi_R, hvr_R, hvl_R, hsz_R, hty_L, hvi_L, hvr_L, hvl_L, hsz_L, hty_P, hvi_P, hvr_P, hvl_P, hsz_P, hty_C, hvi_C, hvr_C, hvl_C, hsz_C], p2⟩ (fun h' q1 q2 => hC h' (chJ_trans hq2 q1) q2)
                    have hpos : ¬ (tK T n = 2 ∧ (fol = true ∨ (((a1 + s.length : Nat) : Int) < (W : Int)))) := fun q => hfl ⟨q.1, q.2.imp id (fun z y => by rw [y] at hlen; simp at hlen; omega)⟩
                    cases fol
                    all_goals
                      (repeat' (first | with_reducible assumption | (refine r_nameAt (by omega) hnd HR k3 bs R_way.2 (by omega) (by omega) rs ?_) | (refine And.intro ?_ ?_) | (with_reducible intro _) | (simp [wp_eq, wpE, mk_X11_walk, mg, mc_X11_walk, lget, lset, popN, cats, rcv, entL, isArr, kC_s, kC_n, st1, st2, st3, st4, st5, st6, st7, st8, st9, st10, st11, st12, st13, st14, st15, st16, st17, st18, st19, st20, st21, st22, st23, st24, st25, st26, st27, st28, st29, st30, st31, st32, st33, st34, st35, st36, st37, st38, st39, st40, st41, st42, st43, st44, st45, st46, st47, st48, st49, st50, st51, st52, st53, st54, st55, st56, st57, st58, st59, st60, st61, st62, st63, st64, st65, st66, st67, st68, st69, st70, st71, st72, st73, st74, st75, st76, st77, st78, st79, st80, st81, st82, st83, st84, st85, st86, st87, st88, st89, st90, st91, R0, R_kinds, R_bitsOf, R_parents, R_targets, R_way, -Int.natCast_add, -Int.natCast_mul, hd0, hixr, e3, q1, gn, h25, b01, inR]))) <;> (try (first | omega | exact hz))
                      all_goals (first | exact hz _ _ _ | (exfalso; omega) | (exfalso; simp at hpos; omega))
        · have hst : stp T fol nd lk w1 = .inl (-3) := by simp [stp, hk]
          rw [hst] at hC
          have hz := hC h chJ_refl (fun n c q => by cases q)
          (repeat' (first | with_reducible assumption | (refine And.intro ?_ ?_) | (with_reducible intro _) | (simp [wp_eq, wpE, mk_X11_walk, mg, mc_X11_walk, lget, lset, popN, cats, rcv, entL, isArr, kC_s, kC_n, st1, st2, st3, st4, st5, st6, st7, st8, st9, st10, st11, st12, st13, st14, st15, st16, st17, st18, st19, st20, st21, st22, st23, st24, st25, st26, st27, st28, st29, st30, st31, st32, st33, st34, st35, st36, st37, st38, st39, st40, st41, st42, st43, st44, st45, st46, st47, st48, st49, st50, st51, st52, st53, st54, st55, st56, st57, st58, st59, st60, st61, st62, st63, st64, st65, st66, st67, st68, st69, st70, st71, st72, st73, st74, st75, st76, st77, st78, st79, st80, st81, st82, st83, st84, st85, st86, st87, st88, st89, st90, st91, R0, R_kinds, R_bitsOf, R_parents, R_targets, R_way, gk, hk]))) <;> (try (first | omega | exact hz))
