theorem TY_chI {S : Nat → Prop} {u : Nat} {h h' : mH} (q : chI S h h') (H : TY u h) : TY u h' := by
  obtain ⟨e1, e2, e3, e4, e5, e6, e7, e8, e9⟩ := H
  exact ⟨by rw [q.2.1]; exact e1, by rw [q.2.2.1]; exact e2, by rw [q.2.2.1]; exact e3, by rw [q.2.2.1]; exact e4, by rw [q.2.2.1]; exact e5, by rw [q.2.1]; exact e6, by rw [q.2.1]; exact e7, by rw [q.2.1]; exact e8, by rw [q.2.1]; exact e9⟩
theorem LV_4 {u i : Nat} {h : mH} {s : aL} {z : Int} (H : LV u h i s) : LV u (hsetI h u 4 z) i s := by
  obtain ⟨h1, h2, h3, h4⟩ := H
  exact ⟨by simp [hty_I, hvi_I, hvr_I, hvl_I, hsz_I, hty_R, hvi_R, hvr_R, hvl_R, hsz_R, hty_L, hvi_L, hvr_L, hvl_L, hsz_L, hty_P, hvi_P, hvr_P, hvl_P, hsz_P, hty_C, hvi_C, hvr_C, hvl_C, hsz_C]; exact h1, by simp [hty_I, hvi_I, hvr_I, hvl_I, hsz_I, hty_R, hvi_R, hvr_R, hvl_R, hsz_R, hty_L, hvi_L, hvr_L, hvl_L, hsz_L, hty_P, hvi_P, hvr_P, hvl_P, hsz_P, hty_C, hvi_C, hvr_C, hvl_C, hsz_C]; exact h2, by simp [hty_I, hvi_I, hvr_I, hvl_I, hsz_I, hty_R, hvi_R, hvr_R, hvl_R, hsz_R, hty_L, hvi_L, hvr_L, hvl_L, hsz_L, hty_P, hvi_P, hvr_P, hvl_P, hsz_P, hty_C, hvi_C, hvr_C, hvl_C, hsz_C]; exact h3, by simp [hty_I, hvi_I, hvr_I, hvl_I, hsz_I, hty_R, hvi_R, hvr_R, hvl_R, hsz_R, hty_L, hvi_L, hvr_L, hvl_L, hsz_L, hty_P, hvi_P, hvr_P, hvl_P, hsz_P, hty_C, hvi_C, hvr_C, hvl_C, hsz_C]; exact h4⟩
theorem t_begin {G : Nat → Nat} {d u : Nat} {h : mH} {C : mQ} {X : mX} (hd : 2 ≤ d) (H : TY u h) (hC : ∀ h', chI (S5 u) h h' → TH u h' [] (true, false, true, false) → C none h') : callG (wp G) d 54 0 0 1 [.inr (.inl (some u))] h C X := by
  have e1 := H.1
  have q1 : chI (S5 u) h (hsetI h u 4 0) := chI_set (Or.inl rfl)
  refine cg 1 (by omega) (fun d hd => ?_)
  have hd0 : (0 < d) = True := eq_true (by omega)
  have ccl : ∀ {C : mQ} {X : mX}, (∀ h', chI (S5 u) (hsetI h u 4 0) h' → hvi h' u 4 = ((0 : Nat) : Int) → LV u h' 0 (true, false, true, false) → C none h') → callG (wp G) d 55 0 0 2 [.inr (.inl (some u)), .inl 1] (hsetI h u 4 0) C X := fun {C X} q => t_clear (n := 0) (b := true) (TY_chI q1 H) (by simp [hty_I, hvi_I, hvr_I, hvl_I, hsz_I, hty_R, hvi_R, hvr_R, hvl_R, hsz_R, hty_L, hvi_L, hvr_L, hvl_L, hsz_L, hty_P, hvi_P, hvr_P, hvl_P, hsz_P, hty_C, hvi_C, hvr_C, hvl_C, hsz_C]) (by omega) (fun h' r1 r2 r3 _ => q h' r1 r2 r3)
  (repeat' (first | with_reducible assumption | (refine ccl ?_) | (refine And.intro ?_ ?_) | (with_reducible intro _) | (simp [wp_eq, wpE, mk_X8_begin, mg, mc_X8_begin, lget, lset, popN, cats, rcv, entL, isArr, kC_s, kC_n, st1, st2, st3, st4, st5, st6, st7, st8, st9, st10, st11, st12, st13, st14, st15, st16, st17, st18, st19, st20, st21, st22, st23, st24, st25, st26, st27, st28, st29, st30, st31, st32, st33, st34, st35, st36, st37, st38, st39, st40, st41, st42, st43, st44, st45, st46, st47, st48, st49, st50, st51, st52, st53, st54, st55, st56, st57, st58, st59, st60, st61, st62, st63, st64, st65, st66, st67, st68, st69, st70, st71, st72, st73, st74, st75, st76, st77, st78, st79, st80, st81, st82, st83, st84, st85, st86, st87, st88, st89, st90, st91, e1, hd0, hty_I, hvi_I, hvr_I, hvl_I, hsz_I, hty_R, hvi_R, hvr_R, hvl_R, hsz_R, hty_L, hvi_L, hvr_L, hvl_L, hsz_L, hty_P, hvi_P, hvr_P, hvl_P, hsz_P, hty_C, hvi_C, hvr_C, hvl_C, hsz_C]))) <;> (try (first | omega | exact hz))
  all_goals
    rename_i zzh zz1 zz2 zz3
    exact hC zzh (chI_trans q1 zz1) ⟨TY_chI (chI_trans q1 zz1) H, by simpa using zz2, by simp, zz3, fun i s hi => by simp at hi⟩
theorem t_join {G : Nat → Nat} {d u : Nat} {h : mH} {C : mQ} {X : mX} {S : List aL} {v : aL} {p : Bool} (hd : 2 ≤ d) (H : TH u h S v) (hC : ∀ h', chI (S5 u) h h' → TH u h' S (ljn v p) → C none h') : callG (wp G) d 58 0 0 2 [.inr (.inl (some u)), .inl (b01 p)] h C X := by
  have HH := H
  obtain ⟨⟨e1, e2, e3, e4, e5, e6, e7, e8, e9⟩, g1, g2, ⟨l1, l2, l3, l4⟩, g4⟩ := HH
  have cio : ∀ {d : Nat} {C : mQ} {X : mX}, C (some (.inl (b01 (lop v)))) h → callG (wp G) d 56 0 0 1 [.inr (.inl (some u))] h C X := fun {d C X} q => t_isOpen H q
  have q1 : ∀ z : Int, chI (S5 u) h (hsetI (hsetI h (u + 3) S.length z) (u + 4) S.length 0) := fun z => chI_trans (chI_set (by simp [S5])) (chI_set (by simp [S5]))
  have q2 : chI (S5 u) h (hsetI h (u + 4) S.length 0) := chI_set (by simp [S5])
  refine cg 1 (by omega) (fun d hd => ?_)
  have hd0 : (0 < d) = True := eq_true (by omega)
  by_cases ho : lop v = true
  · have hz := hC _ (q1 (b01 (xor p v.2.2.2))) (TH_upd H (q1 _) (by simp [hty_I, hvi_I, hvr_I, hvl_I, hsz_I, hty_R, hvi_R, hvr_R, hvl_R, hsz_R, hty_L, hvi_L, hvr_L, hvl_L, hsz_L, hty_P, hvi_P, hvr_P, hvl_P, hsz_P, hty_C, hvi_C, hvr_C, hvl_C, hsz_C]) ⟨by simp [hty_I, hvi_I, hvr_I, hvl_I, hsz_I, hty_R, hvi_R, hvr_R, hvl_R, hsz_R, hty_L, hvi_L, hvr_L, hvl_L, hsz_L, hty_P, hvi_P, hvr_P, hvl_P, hsz_P, hty_C, hvi_C, hvr_C, hvl_C, hsz_C, ljn, ho]; exact l1, by simp [hty_I, hvi_I, hvr_I, hvl_I, hsz_I, hty_R, hvi_R, hvr_R, hvl_R, hsz_R, hty_L, hvi_L, hvr_L, hvl_L, hsz_L, hty_P, hvi_P, hvr_P, hvl_P, hsz_P, hty_C, hvi_C, hvr_C, hvl_C, hsz_C, ljn, ho]; exact l2, by simp [hty_I, hvi_I, hvr_I, hvl_I, hsz_I, hty_R, hvi_R, hvr_R, hvl_R, hsz_R, hty_L, hvi_L, hvr_L, hvl_L, hsz_L, hty_P, hvi_P, hvr_P, hvl_P, hsz_P, hty_C, hvi_C, hvr_C, hvl_C, hsz_C, ljn, ho], by simp [hty_I, hvi_I, hvr_I, hvl_I, hsz_I, hty_R, hvi_R, hvr_R, hvl_R, hsz_R, hty_L, hvi_L, hvr_L, hvl_L, hsz_L, hty_P, hvi_P, hvr_P, hvl_P, hsz_P, hty_C, hvi_C, hvr_C, hvl_C, hsz_C, ljn, ho, b01]⟩ (fun i hi s q => LV_set hi (LV_set hi q)))
    rw [ho] at cio
    generalize v.2.2.2 = t at *
    cases p <;> cases t
    all_goals
      simp [b01] at hz l4 cio
      (repeat' (first | with_reducible assumption | (refine cio ?_) | (refine And.intro ?_ ?_) | (with_reducible intro _) | (simp [wp_eq, wpE, mk_X8_join, mg, mc_X8_join, lget, lset, popN, cats, rcv, entL, isArr, kC_s, kC_n, st1, st2, st3, st4, st5, st6, st7, st8, st9, st10, st11, st12, st13, st14, st15, st16, st17, st18, st19, st20, st21, st22, st23, st24, st25, st26, st27, st28, st29, st30, st31, st32, st33, st34, st35, st36, st37, st38, st39, st40, st41, st42, st43, st44, st45, st46, st47, st48, st49, st50, st51, st52, st53, st54, st55, st56, st57, st58, st59, st60, st61, st62, st63, st64, st65, st66, st67, st68, st69, st70, st71, st72, st73, st74, st75, st76, st77, st78, st79, st80, st81, st82, st83, st84, st85, st86, st87, st88, st89, st90, st91, e1, e4, e5, e8, e9, g1, l4, hd0, b01, hty_I, hvi_I, hvr_I, hvl_I, hsz_I, hty_R, hvi_R, hvr_R, hvl_R, hsz_R, hty_L, hvi_L, hvr_L, hvl_L, hsz_L, hty_P, hvi_P, hvr_P, hvl_P, hsz_P, hty_C, hvi_C, hvr_C, hvl_C, hsz_C]))) <;> (try (first | omega | exact hz))
  · have ho' : lop v = false := by simpa using ho
    have hz := hC _ q2 (TH_upd H q2 (by simp [hty_I, hvi_I, hvr_I, hvl_I, hsz_I, hty_R, hvi_R, hvr_R, hvl_R, hsz_R, hty_L, hvi_L, hvr_L, hvl_L, hsz_L, hty_P, hvi_P, hvr_P, hvl_P, hsz_P, hty_C, hvi_C, hvr_C, hvl_C, hsz_C]) ⟨by simp [hty_I, hvi_I, hvr_I, hvl_I, hsz_I, hty_R, hvi_R, hvr_R, hvl_R, hsz_R, hty_L, hvi_L, hvr_L, hvl_L, hsz_L, hty_P, hvi_P, hvr_P, hvl_P, hsz_P, hty_C, hvi_C, hvr_C, hvl_C, hsz_C, ljn, ho']; exact l1, by simp [hty_I, hvi_I, hvr_I, hvl_I, hsz_I, hty_R, hvi_R, hvr_R, hvl_R, hsz_R, hty_L, hvi_L, hvr_L, hvl_L, hsz_L, hty_P, hvi_P, hvr_P, hvl_P, hsz_P, hty_C, hvi_C, hvr_C, hvl_C, hsz_C, ljn, ho']; exact l2, by simp [hty_I, hvi_I, hvr_I, hvl_I, hsz_I, hty_R, hvi_R, hvr_R, hvl_R, hsz_R, hty_L, hvi_L, hvr_L, hvl_L, hsz_L, hty_P, hvi_P, hvr_P, hvl_P, hsz_P, hty_C, hvi_C, hvr_C, hvl_C, hsz_C, ljn, ho']; exact l3, by simp [hty_I, hvi_I, hvr_I, hvl_I, hsz_I, hty_R, hvi_R, hvr_R, hvl_R, hsz_R, hty_L, hvi_L, hvr_L, hvl_L, hsz_L, hty_P, hvi_P, hvr_P, hvl_P, hsz_P, hty_C, hvi_C, hvr_C, hvl_C, hsz_C, ljn, ho', b01]⟩ (fun i hi s q => LV_set hi q))
    rw [ho'] at cio
    simp [b01] at cio
    (repeat' (first | with_reducible assumption | (refine cio ?_) | (refine And.intro ?_ ?_) | (with_reducible intro _) | (simp [wp_eq, wpE, mk_X8_join, mg, mc_X8_join, lget, lset, popN, cats, rcv, entL, isArr, kC_s, kC_n, st1, st2, st3, st4, st5, st6, st7, st8, st9, st10, st11, st12, st13, st14, st15, st16, st17, st18, st19, st20, st21, st22, st23, st24, st25, st26, st27, st28, st29, st30, st31, st32, st33, st34, st35, st36, st37, st38, st39, st40, st41, st42, st43, st44, st45, st46, st47, st48, st49, st50, st51, st52, st53, st54, st55, st56, st57, st58, st59, st60, st61, st62, st63, st64, st65, st66, st67, st68, st69, st70, st71, st72, st73, st74, st75, st76, st77, st78, st79, st80, st81, st82, st83, st84, st85, st86, st87, st88, st89, st90, st91, e1, e4, e5, e8, e9, g1, hd0, hty_I, hvi_I, hvr_I, hvl_I, hsz_I, hty_R, hvi_R, hvr_R, hvl_R, hsz_R, hty_L, hvi_L, hvr_L, hvl_L, hsz_L, hty_P, hvi_P, hvr_P, hvl_P, hsz_P, hty_C, hvi_C, hvr_C, hvl_C, hsz_C]))) <;> (try (first | omega | exact hz))
theorem t_enter {G : Nat → Nat} {d u : Nat} {h : mH} {C : mQ} {X : mX} {S : List aL} {v : aL} (hd : 2 ≤ d) (H : TH u h S v) (hl : S.length < 50) (hC : ∀ h', chI (S5 u) h h' → TH u h' (S ++ [v]) (lop v, false, true, false) → C none h') : callG (wp G) d 61 0 0 2 [.inr (.inl (some u))] h C X := by
  have HH := H
  obtain ⟨HY, g1, g2, g3, g4⟩ := HH
  have e1 := HY.1
  have cio : ∀ {d : Nat} {C : mQ} {X : mX}, C (some (.inl (b01 (lop v)))) h → callG (wp G) d 56 0 0 1 [.inr (.inl (some u))] h C X := fun {d C X} q => t_isOpen H q
  have q1 : chI (S5 u) h (hsetI h u 4 ((S.length : Int) + 1)) := chI_set (Or.inl rfl)
  refine cg 1 (by omega) (fun d hd => ?_)
  have hd0 : (0 < d) = True := eq_true (by omega)
  have ccl : ∀ {C : mQ} {X : mX}, (∀ h', chI (S5 u) (hsetI h u 4 ((S.length : Int) + 1)) h' → hvi h' u 4 = ((S.length + 1 : Nat) : Int) → LV u h' (S.length + 1) (lop v, false, true, false) → (∀ i, ¬ i = S.length + 1 → ∀ s, LV u (hsetI h u 4 ((S.length : Int) + 1)) i s → LV u h' i s) → C none h') → callG (wp G) d 55 0 0 2 [.inr (.inl (some u)), .inl (b01 (lop v))] (hsetI h u 4 ((S.length : Int) + 1)) C X := fun {C X} q => t_clear (n := S.length + 1) (b := lop v) (TY_chI q1 HY) (by simp [hty_I, hvi_I, hvr_I, hvl_I, hsz_I, hty_R, hvi_R, hvr_R, hvl_R, hsz_R, hty_L, hvi_L, hvr_L, hvl_L, hsz_L, hty_P, hvi_P, hvr_P, hvl_P, hsz_P, hty_C, hvi_C, hvr_C, hvl_C, hsz_C]) (by omega) q
  (repeat' (first | with_reducible assumption | (refine cio ?_) | (refine ccl ?_) | (refine And.intro ?_ ?_) | (with_reducible intro _) | (simp [wp_eq, wpE, mk_X8_enter, mg, mc_X8_enter, lget, lset, popN, cats, rcv, entL, isArr, kC_s, kC_n, st1, st2, st3, st4, st5, st6, st7, st8, st9, st10, st11, st12, st13, st14, st15, st16, st17, st18, st19, st20, st21, st22, st23, st24, st25, st26, st27, st28, st29, st30, st31, st32, st33, st34, st35, st36, st37, st38, st39, st40, st41, st42, st43, st44, st45, st46, st47, st48, st49, st50, st51, st52, st53, st54, st55, st56, st57, st58, st59, st60, st61, st62, st63, st64, st65, st66, st67, st68, st69, st70, st71, st72, st73, st74, st75, st76, st77, st78, st79, st80, st81, st82, st83, st84, st85, st86, st87, st88, st89, st90, st91, e1, g1, hd0, hl, inR, hty_I, hvi_I, hvr_I, hvl_I, hsz_I, hty_R, hvi_R, hvr_R, hvl_R, hsz_R, hty_L, hvi_L, hvr_L, hvl_L, hsz_L, hty_P, hvi_P, hvr_P, hvl_P, hsz_P, hty_C, hvi_C, hvr_C, hvl_C, hsz_C]))) <;> (try (first | omega | exact hz))
  all_goals
    rename_i zzh zz1 zz2 zz3 zz4
    refine hC zzh (chI_trans q1 zz1) ⟨TY_chI (chI_trans q1 zz1) HY, by simpa using zz2, by simp; omega, by simpa using zz3, fun i s hi => ?_⟩
    by_cases hil : i < S.length
    · rw [List.getElem?_append_left hil] at hi
      exact zz4 i (by omega) s (LV_4 (g4 i s hi))
    · rw [List.getElem?_append_right (by omega)] at hi
      have hk0 : i - S.length = 0 := by
        cases hn : i - S.length with
        | zero => rfl
        | succ n => rw [hn] at hi; simp at hi
      rw [hk0] at hi
      simp at hi
      have : i = S.length := by omega
      subst this; subst hi
      exact zz4 _ (by omega) _ (LV_4 g3)
theorem t_leave {G : Nat → Nat} {d u : Nat} {h : mH} {C : mQ} {X : mX} {S : List aL} {v w : aL} (hd : 3 ≤ d) (H : TH u h (S ++ [w]) v) (hC : ∀ h', chI (S5 u) h h' → TH u h' S (ljn w (lva v)) → C none h') : callG (wp G) d 62 0 0 2 [.inr (.inl (some u))] h C X := by
  have HH := H
  obtain ⟨HY, g1, g2, g3, g4⟩ := HH
  have e1 := HY.1
  simp at g1 g2
  have civ : ∀ {d : Nat} {C : mQ} {X : mX}, C (some (.inl (b01 (lva v)))) h → callG (wp G) d 57 0 0 1 [.inr (.inl (some u))] h C X := fun {d C X} q => t_value H q
  have q1 : chI (S5 u) h (hsetI h u 4 (S.length : Int)) := chI_set (Or.inl rfl)
  have H1 : TH u (hsetI h u 4 (S.length : Int)) S w := ⟨TY_chI q1 HY, by simp [hty_I, hvi_I, hvr_I, hvl_I, hsz_I, hty_R, hvi_R, hvr_R, hvl_R, hsz_R, hty_L, hvi_L, hvr_L, hvl_L, hsz_L, hty_P, hvi_P, hvr_P, hvl_P, hsz_P, hty_C, hvi_C, hvr_C, hvl_C, hsz_C], by omega, LV_4 (g4 S.length w (by simp)), fun i s hi => LV_4 (g4 i s (by rw [List.getElem?_append_left (List.getElem?_eq_some_iff.mp hi).1]; exact hi))⟩
  have f1 : (S.length : Int) + 1 - 1 = (S.length : Int) := by omega
  have f2 : 0 < (S.length : Int) + 1 := by omega
  refine cg 2 (by omega) (fun d hd => ?_)
  have hd0 : (0 < d) = True := eq_true (by omega)
  have cjn : ∀ {C : mQ} {X : mX}, (∀ h', chI (S5 u) (hsetI h u 4 (S.length : Int)) h' → TH u h' S (ljn w (lva v)) → C none h') → callG (wp G) d 58 0 0 2 [.inr (.inl (some u)), .inl (b01 (lva v))] (hsetI h u 4 (S.length : Int)) C X := fun {C X} q => t_join (by omega) H1 q
  (repeat' (first | with_reducible assumption | (refine civ ?_) | (refine cjn ?_) | (refine And.intro ?_ ?_) | (with_reducible intro _) | (simp [wp_eq, wpE, mk_X8_leave, mg, mc_X8_leave, lget, lset, popN, cats, rcv, entL, isArr, kC_s, kC_n, st1, st2, st3, st4, st5, st6, st7, st8, st9, st10, st11, st12, st13, st14, st15, st16, st17, st18, st19, st20, st21, st22, st23, st24, st25, st26, st27, st28, st29, st30, st31, st32, st33, st34, st35, st36, st37, st38, st39, st40, st41, st42, st43, st44, st45, st46, st47, st48, st49, st50, st51, st52, st53, st54, st55, st56, st57, st58, st59, st60, st61, st62, st63, st64, st65, st66, st67, st68, st69, st70, st71, st72, st73, st74, st75, st76, st77, st78, st79, st80, st81, st82, st83, st84, st85, st86, st87, st88, st89, st90, st91, e1, g1, f1, f2, hd0, inR, hty_I, hvi_I, hvr_I, hvl_I, hsz_I, hty_R, hvi_R, hvr_R, hvl_R, hsz_R, hty_L, hvi_L, hvr_L, hvl_L, hsz_L, hty_P, hvi_P, hvr_P, hvl_P, hsz_P, hty_C, hvi_C, hvr_C, hvl_C, hsz_C]))) <;> (try (first | omega | exact hz))
  all_goals
    rename_i zzh zz1 zz2
    exact hC zzh (chI_trans q1 zz1) zz2
