/-! TRUTH of the class: levels -/
abbrev aL : Type := Bool × Bool × Bool × Bool
def LV (u : Nat) (h : mH) (i : Nat) (v : aL) : Prop := hvi h (u + 1) i = b01 v.1 ∧ hvi h (u + 2) i = b01 v.2.1 ∧ hvi h (u + 3) i = b01 v.2.2.1 ∧ hvi h (u + 4) i = b01 v.2.2.2
def TY (u : Nat) (h : mH) : Prop := hty h u = some (8, 5) ∧ hvr h u 0 = some (u + 1) ∧ hvr h u 1 = some (u + 2) ∧ hvr h u 2 = some (u + 3) ∧ hvr h u 3 = some (u + 4) ∧ hty h (u + 1) = some (22, 51) ∧ hty h (u + 2) = some (22, 51) ∧ hty h (u + 3) = some (22, 51) ∧ hty h (u + 4) = some (22, 51)
def TH (u : Nat) (h : mH) (S : List aL) (v : aL) : Prop := TY u h ∧ hvi h u 4 = (S.length : Int) ∧ S.length ≤ 50 ∧ LV u h S.length v ∧ ∀ i s, S[i]? = some s → LV u h i s
def lop (v : aL) : Bool := v.1 && v.2.2.1 && !v.2.1
def lva (v : aL) : Bool := v.2.1 || v.2.2.1
def ljn (v : aL) (p : Bool) : aL := if lop v = true then (v.1, v.2.1, xor p v.2.2.2, false) else (v.1, v.2.1, v.2.2.1, false)
def ltn (v : aL) : aL := (v.1, v.2.1, v.2.2.1, !v.2.2.2)
def lna (v : aL) : aL := (v.1, v.2.1 || v.2.2.1, true, v.2.2.2)
theorem LV_set {u i n : Nat} {h : mH} {s : aL} {a : Nat} {z : Int} (hi : ¬ i = n) (H : LV u h i s) : LV u (hsetI h a n z) i s := by
  obtain ⟨h1, h2, h3, h4⟩ := H
  exact ⟨by rw [hvi_I, if_neg (fun q => hi q.2)]; exact h1, by rw [hvi_I, if_neg (fun q => hi q.2)]; exact h2, by rw [hvi_I, if_neg (fun q => hi q.2)]; exact h3, by rw [hvi_I, if_neg (fun q => hi q.2)]; exact h4⟩
theorem t_isOpen {G : Nat → Nat} {d u : Nat} {h : mH} {C : mQ} {X : mX} {S : List aL} {v : aL} (H : TH u h S v) (hC : C (some (.inl (b01 (lop v)))) h) : callG (wp G) d 56 0 0 1 [.inr (.inl (some u))] h C X := by
  obtain ⟨⟨e1, e2, e3, e4, e5, e6, e7, e8, e9⟩, g1, g2, ⟨l1, l2, l3, l4⟩, g4⟩ := H
  obtain ⟨a, o, n, t⟩ := v
  simp only at l1 l2 l3 l4
  refine ⟨C, fun _ _ => False, ?_, fun _ _ q => q, fun _ _ q => q.elim⟩
  cases a <;> cases o <;> cases n
  all_goals
    simp [lop, b01] at hC l1 l2 l3
    (repeat' (first | with_reducible assumption | (refine And.intro ?_ ?_) | (with_reducible intro _) | (simp [wp_eq, wpE, mk_X8_isOpen, mg, mc_X8_isOpen, lget, lset, popN, cats, rcv, entL, isArr, kC_s, kC_n, st1, st2, st3, st4, st5, st6, st7, st8, st9, st10, st11, st12, st13, st14, st15, st16, st17, st18, st19, st20, st21, st22, st23, st24, st25, st26, st27, st28, st29, st30, st31, st32, st33, st34, st35, st36, st37, st38, st39, st40, st41, st42, st43, st44, st45, st46, st47, st48, st49, st50, st51, st52, st53, st54, st55, st56, st57, st58, st59, st60, st61, st62, st63, st64, st65, st66, st67, st68, st69, st70, st71, st72, st73, st74, st75, st76, st77, st78, st79, st80, st81, st82, st83, st84, st85, st86, st87, st88, st89, st90, st91, e1, e2, e3, e4, e6, e7, e8, g1, l1, l2, l3]))) <;> (try (first | omega | exact hz))
theorem t_value {G : Nat → Nat} {d u : Nat} {h : mH} {C : mQ} {X : mX} {S : List aL} {v : aL} (H : TH u h S v) (hC : C (some (.inl (b01 (lva v)))) h) : callG (wp G) d 57 0 0 1 [.inr (.inl (some u))] h C X := by
  obtain ⟨⟨e1, e2, e3, e4, e5, e6, e7, e8, e9⟩, g1, g2, ⟨l1, l2, l3, l4⟩, g4⟩ := H
  obtain ⟨a, o, n, t⟩ := v
  simp only at l1 l2 l3 l4
  refine ⟨C, fun _ _ => False, ?_, fun _ _ q => q, fun _ _ q => q.elim⟩
  cases o <;> cases n
  all_goals
    simp [lva, b01] at hC l2 l3
    (repeat' (first | with_reducible assumption | (refine And.intro ?_ ?_) | (with_reducible intro _) | (simp [wp_eq, wpE, mk_X8_value, mg, mc_X8_value, lget, lset, popN, cats, rcv, entL, isArr, kC_s, kC_n, st1, st2, st3, st4, st5, st6, st7, st8, st9, st10, st11, st12, st13, st14, st15, st16, st17, st18, st19, st20, st21, st22, st23, st24, st25, st26, st27, st28, st29, st30, st31, st32, st33, st34, st35, st36, st37, st38, st39, st40, st41, st42, st43, st44, st45, st46, st47, st48, st49, st50, st51, st52, st53, st54, st55, st56, st57, st58, st59, st60, st61, st62, st63, st64, st65, st66, st67, st68, st69, st70, st71, st72, st73, st74, st75, st76, st77, st78, st79, st80, st81, st82, st83, st84, st85, st86, st87, st88, st89, st90, st91, e1, e3, e4, e7, e8, g1, l2, l3]))) <;> (try (first | omega | exact hz))
theorem TH_upd {u : Nat} {h h' : mH} {S : List aL} {v v' : aL} (H : TH u h S v) (q : chI (S5 u) h h') (h4 : hvi h' u 4 = hvi h u 4) (hv : LV u h' S.length v') (ho : ∀ i, ¬ i = S.length → ∀ s, LV u h i s → LV u h' i s) : TH u h' S v' := by
  obtain ⟨⟨e1, e2, e3, e4, e5, e6, e7, e8, e9⟩, g1, g2, g3, g4⟩ := H
  refine ⟨⟨by rw [q.2.1]; exact e1, by rw [q.2.2.1]; exact e2, by rw [q.2.2.1]; exact e3, by rw [q.2.2.1]; exact e4, by rw [q.2.2.1]; exact e5, by rw [q.2.1]; exact e6, by rw [q.2.1]; exact e7, by rw [q.2.1]; exact e8, by rw [q.2.1]; exact e9⟩, by rw [h4]; exact g1, g2, hv, fun i s hi => ?_⟩
  have hil := (List.getElem?_eq_some_iff.mp hi).1
  exact ho i (by omega) s (g4 i s hi)
theorem t_turn {G : Nat → Nat} {d u : Nat} {h : mH} {C : mQ} {X : mX} {S : List aL} {v : aL} (H : TH u h S v) (hC : ∀ h', chI (S5 u) h h' → TH u h' S (ltn v) → C none h') : callG (wp G) d 59 0 0 1 [.inr (.inl (some u))] h C X := by
  have HH := H
  obtain ⟨⟨e1, e2, e3, e4, e5, e6, e7, e8, e9⟩, g1, g2, ⟨l1, l2, l3, l4⟩, g4⟩ := HH
  obtain ⟨a, o, n, t⟩ := v
  simp only at l1 l2 l3 l4
  have hz := hC (hsetI h (u + 4) S.length (b01 (!t))) (chI_set (by simp [S5])) (TH_upd H (chI_set (by simp [S5])) (by simp [hty_I, hvi_I, hvr_I, hvl_I, hsz_I, hty_R, hvi_R, hvr_R, hvl_R, hsz_R, hty_L, hvi_L, hvr_L, hvl_L, hsz_L, hty_P, hvi_P, hvr_P, hvl_P, hsz_P, hty_C, hvi_C, hvr_C, hvl_C, hsz_C]) ⟨by simp [hty_I, hvi_I, hvr_I, hvl_I, hsz_I, hty_R, hvi_R, hvr_R, hvl_R, hsz_R, hty_L, hvi_L, hvr_L, hvl_L, hsz_L, hty_P, hvi_P, hvr_P, hvl_P, hsz_P, hty_C, hvi_C, hvr_C, hvl_C, hsz_C]; exact l1, by simp [hty_I, hvi_I, hvr_I, hvl_I, hsz_I, hty_R, hvi_R, hvr_R, hvl_R, hsz_R, hty_L, hvi_L, hvr_L, hvl_L, hsz_L, hty_P, hvi_P, hvr_P, hvl_P, hsz_P, hty_C, hvi_C, hvr_C, hvl_C, hsz_C]; exact l2, by simp [hty_I, hvi_I, hvr_I, hvl_I, hsz_I, hty_R, hvi_R, hvr_R, hvl_R, hsz_R, hty_L, hvi_L, hvr_L, hvl_L, hsz_L, hty_P, hvi_P, hvr_P, hvl_P, hsz_P, hty_C, hvi_C, hvr_C, hvl_C, hsz_C]; exact l3, by simp [hty_I, hvi_I, hvr_I, hvl_I, hsz_I, hty_R, hvi_R, hvr_R, hvl_R, hsz_R, hty_L, hvi_L, hvr_L, hvl_L, hsz_L, hty_P, hvi_P, hvr_P, hvl_P, hsz_P, hty_C, hvi_C, hvr_C, hvl_C, hsz_C, ltn]⟩ (fun i hi s q => LV_set hi q))
  refine ⟨C, fun _ _ => False, ?_, fun _ _ q => q, fun _ _ q => q.elim⟩
  cases t
  all_goals
    simp [b01] at hz l4
    (repeat' (first | with_reducible assumption | (refine And.intro ?_ ?_) | (with_reducible intro _) | (simp [wp_eq, wpE, mk_X8_turn, mg, mc_X8_turn, lget, lset, popN, cats, rcv, entL, isArr, kC_s, kC_n, st1, st2, st3, st4, st5, st6, st7, st8, st9, st10, st11, st12, st13, st14, st15, st16, st17, st18, st19, st20, st21, st22, st23, st24, st25, st26, st27, st28, st29, st30, st31, st32, st33, st34, st35, st36, st37, st38, st39, st40, st41, st42, st43, st44, st45, st46, st47, st48, st49, st50, st51, st52, st53, st54, st55, st56, st57, st58, st59, st60, st61, st62, st63, st64, st65, st66, st67, st68, st69, st70, st71, st72, st73, st74, st75, st76, st77, st78, st79, st80, st81, st82, st83, st84, st85, st86, st87, st88, st89, st90, st91, e1, e5, e9, g1, l4]))) <;> (try (first | omega | exact hz))
theorem t_nextAnd {G : Nat → Nat} {d u : Nat} {h : mH} {C : mQ} {X : mX} {S : List aL} {v : aL} (H : TH u h S v) (hC : ∀ h', chI (S5 u) h h' → TH u h' S (lna v) → C none h') : callG (wp G) d 60 0 0 1 [.inr (.inl (some u))] h C X := by
  have HH := H
  obtain ⟨⟨e1, e2, e3, e4, e5, e6, e7, e8, e9⟩, g1, g2, ⟨l1, l2, l3, l4⟩, g4⟩ := HH
  obtain ⟨a, o, n, t⟩ := v
  simp only at l1 l2 l3 l4
  have q1 : chI (S5 u) h (hsetI (hsetI h (u + 2) S.length (b01 (o || n))) (u + 3) S.length 1) := chI_trans (chI_set (by simp [S5])) (chI_set (by simp [S5]))
  have hz := hC _ q1 (TH_upd H q1 (by simp [hty_I, hvi_I, hvr_I, hvl_I, hsz_I, hty_R, hvi_R, hvr_R, hvl_R, hsz_R, hty_L, hvi_L, hvr_L, hvl_L, hsz_L, hty_P, hvi_P, hvr_P, hvl_P, hsz_P, hty_C, hvi_C, hvr_C, hvl_C, hsz_C]) ⟨by simp [hty_I, hvi_I, hvr_I, hvl_I, hsz_I, hty_R, hvi_R, hvr_R, hvl_R, hsz_R, hty_L, hvi_L, hvr_L, hvl_L, hsz_L, hty_P, hvi_P, hvr_P, hvl_P, hsz_P, hty_C, hvi_C, hvr_C, hvl_C, hsz_C]; exact l1, by simp [hty_I, hvi_I, hvr_I, hvl_I, hsz_I, hty_R, hvi_R, hvr_R, hvl_R, hsz_R, hty_L, hvi_L, hvr_L, hvl_L, hsz_L, hty_P, hvi_P, hvr_P, hvl_P, hsz_P, hty_C, hvi_C, hvr_C, hvl_C, hsz_C, lna], by simp [hty_I, hvi_I, hvr_I, hvl_I, hsz_I, hty_R, hvi_R, hvr_R, hvl_R, hsz_R, hty_L, hvi_L, hvr_L, hvl_L, hsz_L, hty_P, hvi_P, hvr_P, hvl_P, hsz_P, hty_C, hvi_C, hvr_C, hvl_C, hsz_C, lna, b01], by simp [hty_I, hvi_I, hvr_I, hvl_I, hsz_I, hty_R, hvi_R, hvr_R, hvl_R, hsz_R, hty_L, hvi_L, hvr_L, hvl_L, hsz_L, hty_P, hvi_P, hvr_P, hvl_P, hsz_P, hty_C, hvi_C, hvr_C, hvl_C, hsz_C]; exact l4⟩ (fun i hi s q => LV_set hi (LV_set hi q)))
  refine ⟨C, fun _ _ => False, ?_, fun _ _ q => q, fun _ _ q => q.elim⟩
  cases o <;> cases n
  all_goals
    simp [b01] at hz l2 l3
    (repeat' (first | with_reducible assumption | (refine And.intro ?_ ?_) | (with_reducible intro _) | (simp [wp_eq, wpE, mk_X8_nextAnd, mg, mc_X8_nextAnd, lget, lset, popN, cats, rcv, entL, isArr, kC_s, kC_n, st1, st2, st3, st4, st5, st6, st7, st8, st9, st10, st11, st12, st13, st14, st15, st16, st17, st18, st19, st20, st21, st22, st23, st24, st25, st26, st27, st28, st29, st30, st31, st32, st33, st34, st35, st36, st37, st38, st39, st40, st41, st42, st43, st44, st45, st46, st47, st48, st49, st50, st51, st52, st53, st54, st55, st56, st57, st58, st59, st60, st61, st62, st63, st64, st65, st66, st67, st68, st69, st70, st71, st72, st73, st74, st75, st76, st77, st78, st79, st80, st81, st82, st83, st84, st85, st86, st87, st88, st89, st90, st91, e1, e3, e4, e7, e8, g1, l2, l3, hty_I, hvi_I, hvr_I, hvl_I, hsz_I, hty_R, hvi_R, hvr_R, hvl_R, hsz_R, hty_L, hvi_L, hvr_L, hvl_L, hsz_L, hty_P, hvi_P, hvr_P, hvl_P, hsz_P, hty_C, hvi_C, hvr_C, hvl_C, hsz_C]))) <;> (try (first | omega | exact hz))
theorem t_clear {G : Nat → Nat} {d u n : Nat} {h : mH} {C : mQ} {X : mX} {b : Bool} (H : TY u h) (g1 : hvi h u 4 = (n : Int)) (g2 : n ≤ 50) (hC : ∀ h', chI (S5 u) h h' → hvi h' u 4 = (n : Int) → LV u h' n (b, false, true, false) → (∀ i, ¬ i = n → ∀ s, LV u h i s → LV u h' i s) → C none h') : callG (wp G) d 55 0 0 2 [.inr (.inl (some u)), .inl (b01 b)] h C X := by
  obtain ⟨e1, e2, e3, e4, e5, e6, e7, e8, e9⟩ := H
  have hz := hC (hsetI (hsetI (hsetI (hsetI h (u + 1) n (b01 b)) (u + 2) n 0) (u + 3) n 1) (u + 4) n 0) (chI_trans (chI_trans (chI_trans (chI_set (by simp [S5])) (chI_set (by simp [S5]))) (chI_set (by simp [S5]))) (chI_set (by simp [S5]))) (by simp [hty_I, hvi_I, hvr_I, hvl_I, hsz_I, hty_R, hvi_R, hvr_R, hvl_R, hsz_R, hty_L, hvi_L, hvr_L, hvl_L, hsz_L, hty_P, hvi_P, hvr_P, hvl_P, hsz_P, hty_C, hvi_C, hvr_C, hvl_C, hsz_C, g1]) ⟨by simp [hty_I, hvi_I, hvr_I, hvl_I, hsz_I, hty_R, hvi_R, hvr_R, hvl_R, hsz_R, hty_L, hvi_L, hvr_L, hvl_L, hsz_L, hty_P, hvi_P, hvr_P, hvl_P, hsz_P, hty_C, hvi_C, hvr_C, hvl_C, hsz_C], by simp [hty_I, hvi_I, hvr_I, hvl_I, hsz_I, hty_R, hvi_R, hvr_R, hvl_R, hsz_R, hty_L, hvi_L, hvr_L, hvl_L, hsz_L, hty_P, hvi_P, hvr_P, hvl_P, hsz_P, hty_C, hvi_C, hvr_C, hvl_C, hsz_C, b01], by simp [hty_I, hvi_I, hvr_I, hvl_I, hsz_I, hty_R, hvi_R, hvr_R, hvl_R, hsz_R, hty_L, hvi_L, hvr_L, hvl_L, hsz_L, hty_P, hvi_P, hvr_P, hvl_P, hsz_P, hty_C, hvi_C, hvr_C, hvl_C, hsz_C, b01], by simp [hty_I, hvi_I, hvr_I, hvl_I, hsz_I, hty_R, hvi_R, hvr_R, hvl_R, hsz_R, hty_L, hvi_L, hvr_L, hvl_L, hsz_L, hty_P, hvi_P, hvr_P, hvl_P, hsz_P, hty_C, hvi_C, hvr_C, hvl_C, hsz_C, b01]⟩ (fun i hi s q => LV_set hi (LV_set hi (LV_set hi (LV_set hi q))))
  refine ⟨C, fun _ _ => False, ?_, fun _ _ q => q, fun _ _ q => q.elim⟩
  cases b
  all_goals
    simp only [b01] at hz ⊢
    (repeat' (first | with_reducible assumption | (refine And.intro ?_ ?_) | (with_reducible intro _) | (simp [wp_eq, wpE, mk_X8_clearLevel, mg, mc_X8_clearLevel, lget, lset, popN, cats, rcv, entL, isArr, kC_s, kC_n, st1, st2, st3, st4, st5, st6, st7, st8, st9, st10, st11, st12, st13, st14, st15, st16, st17, st18, st19, st20, st21, st22, st23, st24, st25, st26, st27, st28, st29, st30, st31, st32, st33, st34, st35, st36, st37, st38, st39, st40, st41, st42, st43, st44, st45, st46, st47, st48, st49, st50, st51, st52, st53, st54, st55, st56, st57, st58, st59, st60, st61, st62, st63, st64, st65, st66, st67, st68, st69, st70, st71, st72, st73, st74, st75, st76, st77, st78, st79, st80, st81, st82, st83, st84, st85, st86, st87, st88, st89, st90, st91, e1, e2, e3, e4, e5, e6, e7, e8, e9, g1, hty_I, hvi_I, hvr_I, hvl_I, hsz_I, hty_R, hvi_R, hvr_R, hvl_R, hsz_R, hty_L, hvi_L, hvr_L, hvl_L, hsz_L, hty_P, hvi_P, hvr_P, hvl_P, hsz_P, hty_C, hvi_C, hvr_C, hvl_C, hsz_C]))) <;> (try (first | omega | exact hz))
