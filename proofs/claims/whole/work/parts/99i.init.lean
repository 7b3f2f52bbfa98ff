/-! NEW OBJECTS: what has been laid from a place on -/
def uT {α : Type} (f : Nat → α) (k : Nat) (v : α) : Nat → α := fun i => if i = k then v else f i
def uF {α : Type} (f : Nat → Nat → α) (k : Nat) (v : α) : Nat → Nat → α := fun i j => if i = k then v else f i j
def uS {α : Type} (f : Nat → Nat → α) (k l : Nat) (v : α) : Nat → Nat → α := fun i j => if i = k ∧ j = l then v else f i j
def ST (h0 : mH) (c : Nat) (h : mH) (k : Nat) (ft : Nat → Nat × Nat) (fr : Nat → Nat → Option Nat) (fi : Nat → Nat → Int) : Prop := hsz h = c + k ∧ (∀ i, i < k → hty h (c + i) = some (ft i) ∧ ∀ j, hvr h (c + i) j = (fr i j).map (fun m => c + m) ∧ hvi h (c + i) j = fi i j) ∧ (∀ a, a < c → hty h a = hty h0 a ∧ ∀ j, hvr h a j = hvr h0 a j ∧ hvi h a j = hvi h0 a j ∧ hvl h a j = hvl h0 a j) ∧ ∀ a, c + k ≤ a → hty h a = none
theorem ST_P {h0 h : mH} {c k t n : Nat} {ft : Nat → Nat × Nat} {fr : Nat → Nat → Option Nat} {fi : Nat → Nat → Int} (H : ST h0 c h k ft fr fi) : ST h0 c (hpush h t n) (k + 1) (uT ft k (t, n)) (uF fr k none) (uF fi k 0) := by
  obtain ⟨h1, h2, h3, h4⟩ := H
  refine ⟨by rw [hsz_P, h1]; omega, fun i hi => ?_, fun a ha => ?_, fun a ha => ?_⟩
  · by_cases hik : i = k
    · subst hik
      refine ⟨by rw [hty_P, h1, if_pos rfl]; simp [uT], fun j => ⟨by rw [hvr_P, h1, if_pos rfl]; simp [uF], by rw [hvi_P, h1, if_pos rfl]; simp [uF]⟩⟩
    · obtain ⟨a1, a2⟩ := h2 i (by omega)
      have ne : ¬ c + i = c + k := by omega
      refine ⟨by rw [hty_P, h1, if_neg ne, a1]; simp [uT, hik], fun j => ⟨by rw [hvr_P, h1, if_neg ne, (a2 j).1]; simp [uF, hik], by rw [hvi_P, h1, if_neg ne, (a2 j).2]; simp [uF, hik]⟩⟩
  · have ne : ¬ a = c + k := by omega
    obtain ⟨b1, b2⟩ := h3 a ha
    exact ⟨by rw [hty_P, h1, if_neg ne, b1], fun j => ⟨by rw [hvr_P, h1, if_neg ne, (b2 j).1], by rw [hvi_P, h1, if_neg ne, (b2 j).2.1], by rw [hvl_P, h1, if_neg ne, (b2 j).2.2]⟩⟩
  · rw [hty_P, h1, if_neg (by omega)]; exact h4 a (by omega)
theorem ST_R {h0 h : mH} {c k i l m : Nat} {ft : Nat → Nat × Nat} {fr : Nat → Nat → Option Nat} {fi : Nat → Nat → Int} (H : ST h0 c h k ft fr fi) : ST h0 c (hsetR h (c + i) l (some (c + m))) k ft (uS fr i l (some m)) fi := by
  obtain ⟨h1, h2, h3, h4⟩ := H
  refine ⟨h1, fun i' hi => ?_, fun a ha => ?_, h4⟩
  · obtain ⟨a1, a2⟩ := h2 i' hi
    refine ⟨a1, fun j => ⟨?_, (a2 j).2⟩⟩
    rw [hvr_R]
    by_cases hq : i' = i ∧ j = l
    · rw [if_pos (by omega)]; simp [uS, hq]
    · rw [if_neg (by omega), (a2 j).1]; simp [uS, hq]
  · obtain ⟨b1, b2⟩ := h3 a ha
    exact ⟨b1, fun j => ⟨by rw [hvr_R, if_neg (by omega), (b2 j).1], (b2 j).2⟩⟩
theorem ST_I {h0 h : mH} {c k i l : Nat} {v : Int} {ft : Nat → Nat × Nat} {fr : Nat → Nat → Option Nat} {fi : Nat → Nat → Int} (H : ST h0 c h k ft fr fi) : ST h0 c (hsetI h (c + i) l v) k ft fr (uS fi i l v) := by
  obtain ⟨h1, h2, h3, h4⟩ := H
  refine ⟨h1, fun i' hi => ?_, fun a ha => ?_, h4⟩
  · obtain ⟨a1, a2⟩ := h2 i' hi
    refine ⟨a1, fun j => ⟨(a2 j).1, ?_⟩⟩
    rw [hvi_I]
    by_cases hq : i' = i ∧ j = l
    · rw [if_pos (by omega)]; simp [uS, hq]
    · rw [if_neg (by omega), (a2 j).2]; simp [uS, hq]
  · obtain ⟨b1, b2⟩ := h3 a ha
    exact ⟨b1, fun j => ⟨(b2 j).1, by rw [hvi_I, if_neg (by omega), (b2 j).2.1], (b2 j).2.2⟩⟩
theorem ST_t {h0 h : mH} {c k : Nat} {ft : Nat → Nat × Nat} {fr : Nat → Nat → Option Nat} {fi : Nat → Nat → Int} (H : ST h0 c h k ft fr fi) {i : Nat} (hi : i < k) : hty h (c + i) = some (ft i) := (H.2.1 i hi).1
theorem ST_r {h0 h : mH} {c k : Nat} {ft : Nat → Nat × Nat} {fr : Nat → Nat → Option Nat} {fi : Nat → Nat → Int} (H : ST h0 c h k ft fr fi) {i j : Nat} (hi : i < k) : hvr h (c + i) j = (fr i j).map (fun m => c + m) := ((H.2.1 i hi).2 j).1
theorem i_X4 {G : Nat → Nat} {d c k i : Nat} {h0 h : mH} {C : mQ} {X : mX} {ft : Nat → Nat × Nat} {fr : Nat → Nat → Option Nat} {fi : Nat → Nat → Int} (H : ST h0 c h k ft fr fi) (hi : i < k) (ht : ft i = (4, 5))
    (hC : ∀ h', ST h0 c h' (k + 3) (uT (uT (uT ft k (21, 100)) (k + 1) (20, 50)) (k + 2) (20, 50)) (uS (uF (uS (uF (uS (uF fr k none) i 0 (some k)) (k + 1) none) i 1 (some (k + 1))) (k + 2) none) i 2 (some (k + 2))) (uF (uF (uF fi k 0) (k + 1) 0) (k + 2) 0) → C none h') :
    callG (wp G) d 25 3 200 1 [.inr (.inl (some (c + i)))] h C X := by
  have t1 := ST_t H hi
  rw [ht] at t1
  have s1 := H.1
  have hz := hC _ (ST_R (ST_P (ST_R (ST_P (ST_R (ST_P H))))))
  have n1 : ¬ i = k := by omega
  have n2 : ¬ c + i = c + k + 1 := by omega
  have n3 : ¬ c + i = c + k + 1 + 1 := by omega
  simp only [← Nat.add_assoc] at hz
  refine ⟨C, fun _ _ => False, ?_, fun _ _ q => q, fun _ _ q => q.elim⟩
  (repeat' (first | with_reducible assumption | (refine And.intro ?_ ?_) | (with_reducible intro _) | (simp [wp_eq, wpE, mk_X4_init, mg, mc_X4_init, lget, lset, popN, cats, rcv, entL, isArr, kC_s, kC_n, st1, st2, st3, st4, st5, st6, st7, st8, st9, st10, st11, st12, st13, st14, st15, st16, st17, st18, st19, st20, st21, st22, st23, st24, st25, st26, st27, st28, st29, st30, st31, st32, st33, st34, st35, st36, st37, st38, st39, st40, st41, st42, st43, st44, st45, st46, st47, st48, st49, st50, st51, st52, st53, st54, st55, st56, st57, st58, st59, st60, st61, st62, st63, st64, st65, st66, st67, st68, st69, st70, st71, st72, st73, st74, st75, st76, st77, st78, st79, st80, st81, st82, st83, st84, st85, st86, st87, st88, st89, st90, st91, t1, s1, n1, n2, n3, hty_P, hty_R, hty_I, hsz_P, hsz_R, hsz_I]))) <;> (try (first | omega | exact hz))
theorem i_X8 {G : Nat → Nat} {d c k i : Nat} {h0 h : mH} {C : mQ} {X : mX} {ft : Nat → Nat × Nat} {fr : Nat → Nat → Option Nat} {fi : Nat → Nat → Int} (H : ST h0 c h k ft fr fi) (hi : i < k) (ht : ft i = (8, 5))
    (hC : ∀ h', ST h0 c h' (k + 4) (uT (uT (uT (uT ft k (22, 51)) (k + 1) (22, 51)) (k + 2) (22, 51)) (k + 3) (22, 51)) (uS (uF (uS (uF (uS (uF (uS (uF fr k none) i 0 (some k)) (k + 1) none) i 1 (some (k + 1))) (k + 2) none) i 2 (some (k + 2))) (k + 3) none) i 3 (some (k + 3))) (uF (uF (uF (uF fi k 0) (k + 1) 0) (k + 2) 0) (k + 3) 0) → C none h') :
    callG (wp G) d 53 4 204 1 [.inr (.inl (some (c + i)))] h C X := by
  have t1 := ST_t H hi
  rw [ht] at t1
  have s1 := H.1
  have hz := hC _ (ST_R (ST_P (ST_R (ST_P (ST_R (ST_P (ST_R (ST_P H))))))))
  have n1 : ¬ i = k := by omega
  have n2 : ¬ c + i = c + k + 1 := by omega
  have n3 : ¬ c + i = c + k + 1 + 1 := by omega
  have n4 : ¬ c + i = c + k + 1 + 1 + 1 := by omega
  simp only [← Nat.add_assoc] at hz
  refine ⟨C, fun _ _ => False, ?_, fun _ _ q => q, fun _ _ q => q.elim⟩
  (repeat' (first | with_reducible assumption | (refine And.intro ?_ ?_) | (with_reducible intro _) | (simp [wp_eq, wpE, mk_X8_init, mg, mc_X8_init, lget, lset, popN, cats, rcv, entL, isArr, kC_s, kC_n, st1, st2, st3, st4, st5, st6, st7, st8, st9, st10, st11, st12, st13, st14, st15, st16, st17, st18, st19, st20, st21, st22, st23, st24, st25, st26, st27, st28, st29, st30, st31, st32, st33, st34, st35, st36, st37, st38, st39, st40, st41, st42, st43, st44, st45, st46, st47, st48, st49, st50, st51, st52, st53, st54, st55, st56, st57, st58, st59, st60, st61, st62, st63, st64, st65, st66, st67, st68, st69, st70, st71, st72, st73, st74, st75, st76, st77, st78, st79, st80, st81, st82, st83, st84, st85, st86, st87, st88, st89, st90, st91, t1, s1, n1, n2, n3, n4, hty_P, hty_R, hty_I, hsz_P, hsz_R, hsz_I]))) <;> (try (first | omega | exact hz))
theorem i_X1 {G : Nat → Nat} {d c k i l : Nat} {h0 h : mH} {C : mQ} {X : mX} {ft : Nat → Nat × Nat} {fr : Nat → Nat → Option Nat} {fi : Nat → Nat → Int} (H : ST h0 c h k ft fr fi) (hi : i < k) (ht : ft i = (1, 8))
    (hC : ∀ h', ST h0 c h' (k + 4) (uT (uT (uT (uT ft k (20, 50)) (k + 1) (20, 50)) (k + 2) (20, 50)) (k + 3) (21, 50)) (uS (uS (uF (uS (uF (uS (uF (uS (uF fr k none) i 1 (some k)) (k + 1) none) i 2 (some (k + 1))) (k + 2) none) i 3 (some (k + 2))) (k + 3) none) i 4 (some (k + 3))) i 0 (some l)) (uF (uF (uF (uF fi k 0) (k + 1) 0) (k + 2) 0) (k + 3) 0) → C none h') :
    callG (wp G) d 3 4 200 2 [.inr (.inl (some (c + i))), .inr (.inl (some (c + l)))] h C X := by
  have t1 := ST_t H hi
  rw [ht] at t1
  have s1 := H.1
  have hz := hC _ (ST_R (ST_R (ST_P (ST_R (ST_P (ST_R (ST_P (ST_R (ST_P H)))))))))
  have n1 : ¬ i = k := by omega
  have n2 : ¬ c + i = c + k + 1 := by omega
  have n3 : ¬ c + i = c + k + 1 + 1 := by omega
  have n4 : ¬ c + i = c + k + 1 + 1 + 1 := by omega
  simp only [← Nat.add_assoc] at hz
  refine ⟨C, fun _ _ => False, ?_, fun _ _ q => q, fun _ _ q => q.elim⟩
  (repeat' (first | with_reducible assumption | (refine And.intro ?_ ?_) | (with_reducible intro _) | (simp [wp_eq, wpE, mk_X1_init, mg, mc_X1_init, lget, lset, popN, cats, rcv, entL, isArr, kC_s, kC_n, st1, st2, st3, st4, st5, st6, st7, st8, st9, st10, st11, st12, st13, st14, st15, st16, st17, st18, st19, st20, st21, st22, st23, st24, st25, st26, st27, st28, st29, st30, st31, st32, st33, st34, st35, st36, st37, st38, st39, st40, st41, st42, st43, st44, st45, st46, st47, st48, st49, st50, st51, st52, st53, st54, st55, st56, st57, st58, st59, st60, st61, st62, st63, st64, st65, st66, st67, st68, st69, st70, st71, st72, st73, st74, st75, st76, st77, st78, st79, st80, st81, st82, st83, st84, st85, st86, st87, st88, st89, st90, st91, t1, s1, n1, n2, n3, n4, hty_P, hty_R, hty_I, hsz_P, hsz_R, hsz_I]))) <;> (try (first | omega | exact hz))
theorem i_X3 {G : Nat → Nat} {d c k i l : Nat} {h0 h : mH} {C : mQ} {X : mX} {ft : Nat → Nat × Nat} {fr : Nat → Nat → Option Nat} {fi : Nat → Nat → Int} (H : ST h0 c h k ft fr fi) (hi : i < k) (ht : ft i = (3, 2))
    (hC : ∀ h', ST h0 c h' k ft (uS fr i 0 (some l)) fi → C none h') :
    callG (wp G) d 20 0 0 2 [.inr (.inl (some (c + i))), .inr (.inl (some (c + l)))] h C X := by
  have t1 := ST_t H hi
  rw [ht] at t1
  have hz := hC _ (ST_R H)
  refine ⟨C, fun _ _ => False, ?_, fun _ _ q => q, fun _ _ q => q.elim⟩
  (repeat' (first | with_reducible assumption | (refine And.intro ?_ ?_) | (with_reducible intro _) | (simp [wp_eq, wpE, mk_X3_init, mg, mc_X3_init, lget, lset, popN, cats, rcv, entL, isArr, kC_s, kC_n, st1, st2, st3, st4, st5, st6, st7, st8, st9, st10, st11, st12, st13, st14, st15, st16, st17, st18, st19, st20, st21, st22, st23, st24, st25, st26, st27, st28, st29, st30, st31, st32, st33, st34, st35, st36, st37, st38, st39, st40, st41, st42, st43, st44, st45, st46, st47, st48, st49, st50, st51, st52, st53, st54, st55, st56, st57, st58, st59, st60, st61, st62, st63, st64, st65, st66, st67, st68, st69, st70, st71, st72, st73, st74, st75, st76, st77, st78, st79, st80, st81, st82, st83, st84, st85, st86, st87, st88, st89, st90, st91, t1]))) <;> (try (first | omega | exact hz))
theorem i_X6 {G : Nat → Nat} {d c k i : Nat} {h0 h : mH} {C : mQ} {X : mX} {ft : Nat → Nat × Nat} {fr : Nat → Nat → Option Nat} {fi : Nat → Nat → Int} (H : ST h0 c h k ft fr fi) (hi : i < k) (ht : ft i = (6, 3))
    (hC : ∀ h', ST h0 c h' (k + 1) (uT ft k (21, 1500)) (uS (uF fr k none) i 0 (some k)) (uF fi k 0) → C none h') :
    callG (wp G) d 42 1 1500 1 [.inr (.inl (some (c + i)))] h C X := by
  have t1 := ST_t H hi
  rw [ht] at t1
  have s1 := H.1
  have hz := hC _ (ST_R (ST_P H))
  have n1 : ¬ i = k := by omega
  refine ⟨C, fun _ _ => False, ?_, fun _ _ q => q, fun _ _ q => q.elim⟩
  (repeat' (first | with_reducible assumption | (refine And.intro ?_ ?_) | (with_reducible intro _) | (simp [wp_eq, wpE, mk_X6_init, mg, mc_X6_init, lget, lset, popN, cats, rcv, entL, isArr, kC_s, kC_n, st1, st2, st3, st4, st5, st6, st7, st8, st9, st10, st11, st12, st13, st14, st15, st16, st17, st18, st19, st20, st21, st22, st23, st24, st25, st26, st27, st28, st29, st30, st31, st32, st33, st34, st35, st36, st37, st38, st39, st40, st41, st42, st43, st44, st45, st46, st47, st48, st49, st50, st51, st52, st53, st54, st55, st56, st57, st58, st59, st60, st61, st62, st63, st64, st65, st66, st67, st68, st69, st70, st71, st72, st73, st74, st75, st76, st77, st78, st79, st80, st81, st82, st83, st84, st85, st86, st87, st88, st89, st90, st91, t1, s1, n1, hty_P, hty_R, hsz_P]))) <;> (try (first | omega | exact hz))
theorem i_X9 {G : Nat → Nat} {d c k i l : Nat} {h0 h : mH} {C : mQ} {X : mX} {ft : Nat → Nat × Nat} {fr : Nat → Nat → Option Nat} {fi : Nat → Nat → Int} (H : ST h0 c h k ft fr fi) (hi : i < k) (ht : ft i = (9, 7))
    (hC : ∀ h', ST h0 c h' (k + 1) (uT ft k (21, 420)) (uS (uS (uF fr k none) i 1 (some k)) i 0 (some l)) (uF fi k 0) → C none h') :
    callG (wp G) d 63 1 420 2 [.inr (.inl (some (c + i))), .inr (.inl (some (c + l)))] h C X := by
  have t1 := ST_t H hi
  rw [ht] at t1
  have s1 := H.1
  have hz := hC _ (ST_R (ST_R (ST_P H)))
  have n1 : ¬ i = k := by omega
  refine ⟨C, fun _ _ => False, ?_, fun _ _ q => q, fun _ _ q => q.elim⟩
  (repeat' (first | with_reducible assumption | (refine And.intro ?_ ?_) | (with_reducible intro _) | (simp [wp_eq, wpE, mk_X9_init, mg, mc_X9_init, lget, lset, popN, cats, rcv, entL, isArr, kC_s, kC_n, st1, st2, st3, st4, st5, st6, st7, st8, st9, st10, st11, st12, st13, st14, st15, st16, st17, st18, st19, st20, st21, st22, st23, st24, st25, st26, st27, st28, st29, st30, st31, st32, st33, st34, st35, st36, st37, st38, st39, st40, st41, st42, st43, st44, st45, st46, st47, st48, st49, st50, st51, st52, st53, st54, st55, st56, st57, st58, st59, st60, st61, st62, st63, st64, st65, st66, st67, st68, st69, st70, st71, st72, st73, st74, st75, st76, st77, st78, st79, st80, st81, st82, st83, st84, st85, st86, st87, st88, st89, st90, st91, t1, s1, n1, hty_P, hty_R, hsz_P]))) <;> (try (first | omega | exact hz))
theorem i_X5 {G : Nat → Nat} {d c k i : Nat} {h0 h : mH} {C : mQ} {X : mX} {ft : Nat → Nat × Nat} {fr : Nat → Nat → Option Nat} {fi : Nat → Nat → Int} (H : ST h0 c h k ft fr fi) (hi : i < k) (ht : ft i = (5, 10))
    (hC : ∀ h', ST h0 c h' (k + 2) (uT (uT ft k (21, 0)) (k + 1) (25, 12)) (uS (uF (uS (uF fr k none) i 3 (some k)) (k + 1) none) i 4 (some (k + 1))) (uS (uF (uF (uS (uS (uS fi i 0 0) i 1 0) i 2 0) k 0) (k + 1) 0) i 6 7) → C none h') :
    callG (wp G) d 38 2 112 5 [.inr (.inl (some (c + i))), .inl 0, .inl 0, .inl 0, .inl 0] h C X := by
  have t1 := ST_t H hi
  rw [ht] at t1
  have s1 := H.1
  have hz := hC _ (ST_I (ST_R (ST_P (ST_R (ST_P (ST_I (ST_I (ST_I H))))))))
  have n1 : ¬ i = k := by omega
  have n2 : ¬ c + i = c + k + 1 := by omega
  simp only [← Nat.add_assoc] at hz
  refine ⟨C, fun _ _ => False, ?_, fun _ _ q => q, fun _ _ q => q.elim⟩
  (repeat' (first | with_reducible assumption | (refine And.intro ?_ ?_) | (with_reducible intro _) | (simp [wp_eq, wpE, mk_X5_init, mg, mc_X5_init, lget, lset, popN, cats, rcv, entL, isArr, kC_s, kC_n, st1, st2, st3, st4, st5, st6, st7, st8, st9, st10, st11, st12, st13, st14, st15, st16, st17, st18, st19, st20, st21, st22, st23, st24, st25, st26, st27, st28, st29, st30, st31, st32, st33, st34, st35, st36, st37, st38, st39, st40, st41, st42, st43, st44, st45, st46, st47, st48, st49, st50, st51, st52, st53, st54, st55, st56, st57, st58, st59, st60, st61, st62, st63, st64, st65, st66, st67, st68, st69, st70, st71, st72, st73, st74, st75, st76, st77, st78, st79, st80, st81, st82, st83, st84, st85, st86, st87, st88, st89, st90, st91, t1, s1, n1, n2, hty_P, hty_R, hty_I, hsz_P, hsz_R, hsz_I]))) <;> (try (first | omega | exact hz))
