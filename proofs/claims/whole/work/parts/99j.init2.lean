theorem ST_a {h0 h : mH} {c k : Nat} {ft : Nat → Nat × Nat} {fr : Nat → Nat → Option Nat} {fi : Nat → Nat → Int} (H : ST h0 c h k ft fr fi) {i a : Nat} (ha : a = c + i) (hi : i < k) : hty h a = some (ft i) := by subst ha; exact ST_t H hi
theorem i_X7 {G : Nat → Nat} {d c k i : Nat} {h0 h : mH} {C : mQ} {X : mX} {ft : Nat → Nat × Nat} {fr : Nat → Nat → Option Nat} {fi : Nat → Nat → Int} (hd : 2 ≤ d) (H : ST h0 c h k ft fr fi) (hi : i < k) (ht : ft i = (7, 3))
    (hC : ∀ h', ST h0 c h' (k + 4) (uT (uT (uT (uT ft k (24, 48)) (k + 1) (5, 10)) (k + 2) (21, 0)) (k + 3) (25, 12)) (uS (uS (uF (uS (uF (uF (uS (uF fr k none) i 0 (some k)) (k + 1) none) (k + 2) none) (k + 1) 3 (some (k + 2))) (k + 3) none) (k + 1) 4 (some (k + 3))) k 0 (some (k + 1))) (uS (uS (uS (uS (uS (uF (uF (uS (uS (uS (uF (uF fi k 0) (k + 1) 0) (k + 1) 0 0) (k + 1) 1 0) (k + 1) 2 0) (k + 2) 0) (k + 3) 0) (k + 1) 6 7) (k + 1) 7 1) (k + 1) 8 0) i 1 1) i 2 0) → C none h') :
    callG (wp G) d 47 4 170 2 [.inr (.inl (some (c + i)))] h C X := by
  have t1 := ST_t H hi
  rw [ht] at t1
  have s1 := H.1
  have n1 : ¬ c + i = c + k := by omega
  have n1' : ¬ i = k := by omega
  have n2 : ¬ c + i = c + k + 1 := by omega
  have H1 := ST_P (t := 5) (n := 10) (ST_R (i := i) (l := 0) (m := k) (ST_P (t := 24) (n := 48) H))
  refine cg 1 (by omega) (fun d hd => ?_)
  have hd0 : (0 < d) = True := eq_true (by omega)
  have c5 : ∀ {C : mQ} {X : mX}, (∀ h', ST h0 c h' (k + 1 + 1 + 2) _ _ _ → C none h') → callG (wp G) d 38 2 112 5 [.inr (.inl (some (c + k + 1))), .inl 0, .inl 0, .inl 0, .inl 0] (hpush (hsetR (hpush h 24 48) (c + i) 0 (some (c + k))) 5 10) C X := fun {C X} z => i_X5 (i := k + 1) H1 (by omega) (by simp [uT]) z
  simp [wp_eq, wpE, mk_X7_init, mg, mc_X7_init, lget, lset, popN, cats, rcv, entL, isArr, kC_s, kC_n, st1, st2, st3, st4, st5, st6, st7, st8, st9, st10, st11, st12, st13, st14, st15, st16, st17, st18, st19, st20, st21, st22, st23, st24, st25, st26, st27, st28, st29, st30, st31, st32, st33, st34, st35, st36, st37, st38, st39, st40, st41, st42, st43, st44, st45, st46, st47, st48, st49, st50, st51, st52, st53, st54, st55, st56, st57, st58, st59, st60, st61, st62, st63, st64, st65, st66, st67, st68, st69, st70, st71, st72, st73, st74, st75, st76, st77, st78, st79, st80, st81, st82, st83, st84, st85, st86, st87, st88, st89, st90, st91, t1, s1, n1, n1', n2, hd0, hty_P, hty_R, hty_I, hsz_P, hsz_R, hsz_I]
  refine c5 (fun h2 H2 => ?_)
  have u1 : hty h2 (c + k + 1) = some (5, 10) := by rw [ST_a H2 (i := k + 1) (by omega) (by omega)]; simp [uT]
  have u2 : hty h2 (c + i) = some (7, 3) := by rw [ST_t H2 (by omega)]; simp [uT, n1', show ¬ i = k + 1 by omega, show ¬ i = k + 1 + 1 by omega, show ¬ i = k + 1 + 1 + 1 by omega, ht]
  have u3 : hty h2 (c + k) = some (24, 48) := by rw [ST_t H2 (by omega)]; simp [uT, show ¬ k = k + 1 + 1 by omega, show ¬ k = k + 1 + 1 + 1 by omega]
  have u4 : hvr h2 (c + i) 0 = some (c + k) := by rw [ST_r H2 (by omega)]; simp [uS, uF, n1', show ¬ i = k + 1 by omega, show ¬ i = k + 1 + 1 by omega, show ¬ i = k + 1 + 1 + 1 by omega]
  have hz := hC _ (ST_I (l := 2) (v := 0) (i := i) (ST_I (l := 1) (v := 1) (i := i) (ST_R (i := k) (l := 0) (m := k + 1) (ST_I (i := k + 1) (l := 8) (v := 0) (ST_I (i := k + 1) (l := 7) (v := 1) H2)))))
  simp only [← Nat.add_assoc] at hz
  (repeat' (first | with_reducible assumption | (refine And.intro ?_ ?_) | (with_reducible intro _) | (simp [wp_eq, wpE, mk_X7_init, mg, mc_X7_init, lget, lset, popN, cats, rcv, entL, isArr, kC_s, kC_n, st1, st2, st3, st4, st5, st6, st7, st8, st9, st10, st11, st12, st13, st14, st15, st16, st17, st18, st19, st20, st21, st22, st23, st24, st25, st26, st27, st28, st29, st30, st31, st32, st33, st34, st35, st36, st37, st38, st39, st40, st41, st42, st43, st44, st45, st46, st47, st48, st49, st50, st51, st52, st53, st54, st55, st56, st57, st58, st59, st60, st61, st62, st63, st64, st65, st66, st67, st68, st69, st70, st71, st72, st73, st74, st75, st76, st77, st78, st79, st80, st81, st82, st83, st84, st85, st86, st87, st88, st89, st90, st91, u1, u2, u3, u4, hty_R, hty_I, hvr_I, hvr_R, hsz_R, hsz_I, elT]))) <;> (try (first | omega | exact hz))
theorem i_X2 {G : Nat → Nat} {d c k i t l e p : Nat} {h0 h : mH} {C : mQ} {X : mX} {ft : Nat → Nat × Nat} {fr : Nat → Nat → Option Nat} {fi : Nat → Nat → Int} (hd : 2 ≤ d) (H : ST h0 c h k ft fr fi) (hi : i < k) (ht : ft i = (2, 14))
    (hC : ∀ h', ST h0 c h' (k + 7) (uT (uT (uT (uT (uT (uT (uT ft k (8, 5)) (k + 1) (22, 51)) (k + 2) (22, 51)) (k + 3) (22, 51)) (k + 4) (22, 51)) (k + 5) (21, 820)) (k + 6) (3, 2)) (uS (uS (uF (uS (uS (uS (uS (uF (uS (uS (uF (uS (uF (uS (uF (uS (uF (uF fr k none) (k + 1) none) k 0 (some (k + 1))) (k + 2) none) k 1 (some (k + 2))) (k + 3) none) k 2 (some (k + 3))) (k + 4) none) k 3 (some (k + 4))) i 4 (some k)) (k + 5) none) i 5 (some (k + 5))) i 0 (some t)) i 1 (some e)) i 2 (some p)) (k + 6) none) (k + 6) 0 (some l)) i 3 (some (k + 6))) (uF (uF (uF (uF (uF (uF (uF fi k 0) (k + 1) 0) (k + 2) 0) (k + 3) 0) (k + 4) 0) (k + 5) 0) (k + 6) 0) → C none h') :
    callG (wp G) d 11 7 1031 5 [.inr (.inl (some (c + i))), .inr (.inl (some (c + t))), .inr (.inl (some (c + l))), .inr (.inl (some (c + e))), .inr (.inl (some (c + p)))] h C X := by
  have t1 := ST_t H hi
  rw [ht] at t1
  have s1 := H.1
  have n1 : ¬ c + i = c + k := by omega
  have n1' : ¬ i = k := by omega
  have H1 := ST_P (t := 8) (n := 5) H
  refine cg 1 (by omega) (fun d hd => ?_)
  have hd0 : (0 < d) = True := eq_true (by omega)
  have c8 : ∀ {C : mQ} {X : mX}, (∀ h', ST h0 c h' (k + 1 + 4) _ _ _ → C none h') → callG (wp G) d 53 4 204 1 [.inr (.inl (some (c + k)))] (hpush h 8 5) C X := fun {C X} z => i_X8 (i := k) H1 (by omega) (by simp [uT]) z
  simp [wp_eq, wpE, mk_X2_init, mg, mc_X2_init, lget, lset, popN, cats, rcv, entL, isArr, kC_s, kC_n, st1, st2, st3, st4, st5, st6, st7, st8, st9, st10, st11, st12, st13, st14, st15, st16, st17, st18, st19, st20, st21, st22, st23, st24, st25, st26, st27, st28, st29, st30, st31, st32, st33, st34, st35, st36, st37, st38, st39, st40, st41, st42, st43, st44, st45, st46, st47, st48, st49, st50, st51, st52, st53, st54, st55, st56, st57, st58, st59, st60, st61, st62, st63, st64, st65, st66, st67, st68, st69, st70, st71, st72, st73, st74, st75, st76, st77, st78, st79, st80, st81, st82, st83, st84, st85, st86, st87, st88, st89, st90, st91, t1, s1, n1, n1', hd0, hty_P, hty_R, hty_I, hsz_P, hsz_R, hsz_I]
  refine c8 (fun h2 H2 => ?_)
  have u2 : hty h2 (c + i) = some (2, 14) := by rw [ST_t H2 (by omega)]; simp [uT, n1', show ¬ i = k + 1 by omega, show ¬ i = k + 1 + 1 by omega, show ¬ i = k + 1 + 2 by omega, show ¬ i = k + 1 + 3 by omega, ht]
  have s2 : hsz h2 = c + k + 5 := by rw [H2.1]; omega
  have m1 : ¬ c + i = c + k + 5 := by omega
  have m2 : ¬ c + i = c + k + 5 + 1 := by omega
  have H3 := ST_P (t := 3) (n := 2) (ST_R (i := i) (l := 2) (m := p) (ST_R (i := i) (l := 1) (m := e) (ST_R (i := i) (l := 0) (m := t) (ST_R (i := i) (l := 5) (m := k + 5) (ST_P (t := 21) (n := 820) (ST_R (i := i) (l := 4) (m := k) H2))))))
  simp only [← Nat.add_assoc] at H3
  have c3 : ∀ {C : mQ} {X : mX}, (∀ h', ST h0 c h' _ _ _ _ → C none h') → callG (wp G) d 20 0 0 2 [.inr (.inl (some (c + k + 5 + 1))), .inr (.inl (some (c + l)))] _ C X := fun {C X} z => i_X3 (i := k + 6) (l := l) H3 (by omega) (by simp [uT]) z
  simp [wp_eq, wpE, mk_X2_init, mg, mc_X2_init, lget, lset, popN, cats, rcv, entL, isArr, kC_s, kC_n, st1, st2, st3, st4, st5, st6, st7, st8, st9, st10, st11, st12, st13, st14, st15, st16, st17, st18, st19, st20, st21, st22, st23, st24, st25, st26, st27, st28, st29, st30, st31, st32, st33, st34, st35, st36, st37, st38, st39, st40, st41, st42, st43, st44, st45, st46, st47, st48, st49, st50, st51, st52, st53, st54, st55, st56, st57, st58, st59, st60, st61, st62, st63, st64, st65, st66, st67, st68, st69, st70, st71, st72, st73, st74, st75, st76, st77, st78, st79, st80, st81, st82, st83, st84, st85, st86, st87, st88, st89, st90, st91, u2, s2, m1, m2, hd0, hty_P, hty_R, hty_I, hsz_P, hsz_R, hsz_I]
  refine c3 (fun h4 H4 => ?_)
  have u4 : hty h4 (c + i) = some (2, 14) := by rw [ST_t H4 (by omega)]; simp [uT, n1', show ¬ i = k + 1 by omega, show ¬ i = k + 2 by omega, show ¬ i = k + 3 by omega, show ¬ i = k + 4 by omega, show ¬ i = k + 5 by omega, show ¬ i = k + 6 by omega, show ¬ i = k + 1 + 1 by omega, show ¬ i = k + 1 + 2 by omega, show ¬ i = k + 1 + 3 by omega, show ¬ i = k + 1 + 4 by omega, show ¬ i = k + 1 + 4 + 1 by omega, ht]
  have hz := hC _ (ST_R (i := i) (l := 3) (m := k + 6) H4)
  simp only [← Nat.add_assoc] at hz
  (repeat' (first | with_reducible assumption | (refine And.intro ?_ ?_) | (with_reducible intro _) | (simp [wp_eq, wpE, mk_X2_init, mg, mc_X2_init, lget, lset, popN, cats, rcv, entL, isArr, kC_s, kC_n, st1, st2, st3, st4, st5, st6, st7, st8, st9, st10, st11, st12, st13, st14, st15, st16, st17, st18, st19, st20, st21, st22, st23, st24, st25, st26, st27, st28, st29, st30, st31, st32, st33, st34, st35, st36, st37, st38, st39, st40, st41, st42, st43, st44, st45, st46, st47, st48, st49, st50, st51, st52, st53, st54, st55, st56, st57, st58, st59, st60, st61, st62, st63, st64, st65, st66, st67, st68, st69, st70, st71, st72, st73, st74, st75, st76, st77, st78, st79, st80, st81, st82, st83, st84, st85, st86, st87, st88, st89, st90, st91, u4]))) <;> (try (first | omega | exact hz))
