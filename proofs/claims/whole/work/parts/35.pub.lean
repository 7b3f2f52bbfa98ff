/-! PUBLIC METHODS of the class: type, erase, node, go, bits, place, output, tell, count -/
theorem CS_line {c : Nat} {h h' : mH} {L L' : List Int} {T : aT} {here : Nat} {O : List Int} {cp bad : Int} (H : CS c h L T here O cp bad) (hL : LI (c + 1) h' L') (q : chI (fun a => a = c + 1 ∨ a = c + 2 ∨ a = c + 3 ∨ a = c + 4) h h') : CS c h' L' T here O cp bad := by
  obtain ⟨h1, h2, h3, h4, h5, h6, h7, h8, h9, h10⟩ := H
  obtain ⟨⟨a1, a2, a3, a4, a5, a6, a7⟩, -, -⟩ := h2
  have hf : ∀ x, (x = c + 1 ∨ x = c + 2 ∨ x = c + 3 ∨ x = c + 4) → frn (hty h x) := fun x hx => by
    rcases hx with rfl | rfl | rfl | rfl
    · rw [a1]; simp [frn]
    · rw [show c + 2 = c + 1 + 1 from rfl, a5]; simp [frn]; omega
    · rw [show c + 3 = c + 1 + 2 from rfl, a6]; simp [frn]
    · rw [show c + 4 = c + 1 + 3 from rfl, a7]; simp [frn]
  have q' := ch_ofI q
  obtain ⟨p1, p2, p3, p4, p5, p6⟩ := h6
  exact ⟨CF_chI q h1, hL, TR_ch q' hf h3, ⟨by rw [q.2.1]; exact h4.1, by rw [q.2.2.1]; exact h4.2.1, by rw [q.2.2.1]; exact h4.2.2.1, by rw [q.2.1]; exact h4.2.2.2⟩, TI_ex (ex_ch q') hf h3 h5, ⟨by rw [q.2.1]; exact p1, by rw [q.2.1]; exact p2, by rw [q.2.2.2.2 _ _ (by omega)]; exact p3, p4, fun i hi => by rw [q.2.2.2.2 _ _ (by omega)]; exact p5 i hi, p6⟩, by rw [q.2.2.2.2 _ _ (by omega)]; exact h7, by rw [q.2.2.2.2 _ _ (by omega)]; exact h8, fsh_ch q' h9, h10⟩
theorem p_erase {G : Nat → Nat} {d c : Nat} {h : mH} {C : mQ} {X : mX} {L : List Int} {T : aT} {here : Nat} {O : List Int} {cp bad : Int} (hd : 2 ≤ d) (H : CS c h L T here O cp bad) (hC : ∀ h', CS c h' [] T here O cp bad → C (some (.inl (L.length : Int))) h') :
    callG (wp G) d 71 0 0 2 [.inr (.inl (some c))] h C X := by
  have HH := H
  obtain ⟨h1, h2, h3, h4, h5, h6, h7, h8, h9, h10⟩ := HH
  have x1 : hty h c = some (10, 7) := h1.1 (0, 10, 7) (by decide)
  have x2 : hvr h c 0 = some (c + 1) := h1.2 (0, 0, 1) (by decide)
  have a1 := h2.1.1
  have b2 := h2.2.1.2.1
  have q1 : chI (fun a => a = c + 1 ∨ a = c + 2 ∨ a = c + 3 ∨ a = c + 4) h (hsetI h (c + 1) 3 0) := chI_set (Or.inl rfl)
  have hX : LX (c + 1) (hsetI h (c + 1) 3 0) [] := ⟨LN_ch q1 h2.1, by simp, by simp [hty_I, hvi_I, hvr_I, hvl_I, hsz_I, hty_R, hvi_R, hvr_R, hvl_R, hsz_R, hty_L, hvi_L, hvr_L, hvl_L, hsz_L, hty_P, hvi_P, hvr_P, hvl_P, hsz_P, hty_C, hvi_C, hvr_C, hvl_C, hsz_C], fun i hi => by simp at hi, fun c hc => by simp at hc⟩
  refine cg 1 (by omega) (fun d hd => ?_)
  have hd0 : (0 < d) = True := eq_true (by omega)
  (repeat' (first | with_reducible assumption | (refine c_split hX ?_) | (refine And.intro ?_ ?_) | (with_reducible intro _) | (simp [wp_eq, wpE, mk_X10_erase, mg, mc_X10_erase, lget, lset, popN, cats, rcv, entL, isArr, kC_s, kC_n, st1, st2, st3, st4, st5, st6, st7, st8, st9, st10, st11, st12, st13, st14, st15, st16, st17, st18, st19, st20, st21, st22, st23, st24, st25, st26, st27, st28, st29, st30, st31, st32, st33, st34, st35, st36, st37, st38, st39, st40, st41, st42, st43, st44, st45, st46, st47, st48, st49, st50, st51, st52, st53, st54, st55, st56, st57, st58, st59, st60, st61, st62, st63, st64, st65, st66, st67, st68, st69, st70, st71, st72, st73, st74, st75, st76, st77, st78, st79, st80, st81, st82, st83, st84, st85, st86, st87, st88, st89, st90, st91, x1, x2, a1, b2, hd0, hty_I, hvi_I, hvr_I, hvl_I, hsz_I, hty_R, hvi_R, hvr_R, hvl_R, hsz_R, hty_L, hvi_L, hvr_L, hvl_L, hsz_L, hty_P, hvi_P, hvr_P, hvl_P, hsz_P, hty_C, hvi_C, hvr_C, hvl_C, hsz_C]))) <;> (try (first | omega | exact hz))
  all_goals
    rename_i h' p1 p2
    exact hC h' (CS_line H p1 (chI_trans q1 (chI_mono (fun a z => by rcases z with z | z | z; exact Or.inl z; exact Or.inr (Or.inr (Or.inl z)); exact Or.inr (Or.inr (Or.inr z))) p2)))
theorem p_type {G : Nat → Nat} {d c : Nat} {h : mH} {C : mQ} {X : mX} {L : List Int} {T : aT} {here : Nat} {O : List Int} {cp bad : Int} {a b e f g : Int} (hd : 2 ≤ d) (H : CS c h L T here O cp bad)
    (hX : ¬ (L ++ tyA a b e f g).length ≤ 100 → ∀ z, hsz h ≤ z → X 0 (hgrow h z))
    (hC : (L ++ tyA a b e f g).length ≤ 100 → ∀ h', CS c h' (L ++ tyA a b e f g) T here O cp bad → C (some (.inl ((L ++ tyA a b e f g).length : Int))) h') :
    callG (wp G) d 70 1 6 7 [.inr (.inl (some c)), .inl a, .inl b, .inl e, .inl f, .inl g] h C X := by
  have HH := H
  obtain ⟨h1, h2, h3, h4, h5, h6, h7, h8, h9, h10⟩ := HH
  have x1 : hty h c = some (10, 7) := h1.1 (0, 10, 7) (by decide)
  have x2 : hvr h c 0 = some (c + 1) := h1.2 (0, 0, 1) (by decide)
  have a1 := h2.1.1
  have b2 := h2.2.1.2.1
  have b1 := h2.2.1.1
  have l1 := chz_len a 4; have l2 := chz_len b 4; have l3 := chz_len e 4; have l4 := chz_len f 4; have l5 := chz_len g 4
  have hlen : (L ++ tyA a b e f g).length = L.length + ((chz a 4).length + (chz b 4).length + (chz e 4).length + (chz f 4).length + (chz g 4).length) := by simp [tyA]; omega
  refine ⟨C, X, ?_, fun _ _ q => q, fun _ _ q => q⟩
  obtain ⟨d, rfl⟩ : ∃ d', d = d' + 1 := ⟨d - 1, by omega⟩
  rw [Nat.add_sub_cancel]
  have hd0 : (0 < d) = True := eq_true (by omega)
  have hS : ∀ {k k' : mH}, chI (fun a => a = c + 1 ∨ a = c + 1 + 1) k k' → chI (fun a => a = c + 1 ∨ a = c + 2 ∨ a = c + 3 ∨ a = c + 4) k k' := fun q => chI_mono (fun a z => by rcases z with z | z; exact Or.inl z; exact Or.inr (Or.inl z)) q
  by_cases hl : (L ++ tyA a b e f g).length ≤ 100
  · have hz : ∀ h', LI (c + 1) h' (L ++ tyA a b e f g) → chI (fun a => a = c + 1 ∨ a = c + 2 ∨ a = c + 3 ∨ a = c + 4) h h' → C (some (.inl ((L ++ tyA a b e f g).length : Int))) h' := fun h' p1 p2 => hC hl h' (CS_line H p1 p2)
    have hle : (L.length : Int) + ((chz a 4).length + (chz b 4).length + (chz e 4).length + (chz f 4).length + (chz g 4).length : Int) ≤ 100 := by omega
    (repeat' (first | with_reducible assumption | (refine c_charactersIn ?_) | (refine And.intro ?_ ?_) | (with_reducible intro _) | (simp [wp_eq, wpE, mk_X10_type, mg, mc_X10_type, lget, lset, popN, cats, rcv, entL, isArr, kC_s, kC_n, st1, st2, st3, st4, st5, st6, st7, st8, st9, st10, st11, st12, st13, st14, st15, st16, st17, st18, st19, st20, st21, st22, st23, st24, st25, st26, st27, st28, st29, st30, st31, st32, st33, st34, st35, st36, st37, st38, st39, st40, st41, st42, st43, st44, st45, st46, st47, st48, st49, st50, st51, st52, st53, st54, st55, st56, st57, st58, st59, st60, st61, st62, st63, st64, st65, st66, st67, st68, st69, st70, st71, st72, st73, st74, st75, st76, st77, st78, st79, st80, st81, st82, st83, st84, st85, st86, st87, st88, st89, st90, st91, x1, x2, a1, b2, hd0, inR, hle]))) <;> (try (first | omega | exact hz))
    refine c_add (LI_X h2) (by omega) (fun h1 p1 q1 => ?_)
    have y1 : hty h1 c = some (10, 7) := by rw [q1.2.1]; exact x1
    have y2 : hvr h1 c 0 = some (c + 1) := by rw [q1.2.2.1]; exact x2
    have z1 : hty h1 (c + 1) = some (4, 5) := by rw [q1.2.1]; exact a1
    (repeat' (first | with_reducible assumption | (refine And.intro ?_ ?_) | (with_reducible intro _) | (simp [wp_eq, wpE, mk_X10_type, mg, mc_X10_type, lget, lset, popN, cats, rcv, entL, isArr, kC_s, kC_n, st1, st2, st3, st4, st5, st6, st7, st8, st9, st10, st11, st12, st13, st14, st15, st16, st17, st18, st19, st20, st21, st22, st23, st24, st25, st26, st27, st28, st29, st30, st31, st32, st33, st34, st35, st36, st37, st38, st39, st40, st41, st42, st43, st44, st45, st46, st47, st48, st49, st50, st51, st52, st53, st54, st55, st56, st57, st58, st59, st60, st61, st62, st63, st64, st65, st66, st67, st68, st69, st70, st71, st72, st73, st74, st75, st76, st77, st78, st79, st80, st81, st82, st83, st84, st85, st86, st87, st88, st89, st90, st91, y1, y2, z1, hd0]))) <;> (try (first | omega | exact hz))
    refine c_add p1 (by simp; omega) (fun h2 p2 q2 => ?_)
    have y1 : hty h2 c = some (10, 7) := by rw [q2.2.1]; exact y1
    have y2 : hvr h2 c 0 = some (c + 1) := by rw [q2.2.2.1]; exact y2
    have z1 : hty h2 (c + 1) = some (4, 5) := by rw [q2.2.1]; exact z1
    (repeat' (first | with_reducible assumption | (refine And.intro ?_ ?_) | (with_reducible intro _) | (simp [wp_eq, wpE, mk_X10_type, mg, mc_X10_type, lget, lset, popN, cats, rcv, entL, isArr, kC_s, kC_n, st1, st2, st3, st4, st5, st6, st7, st8, st9, st10, st11, st12, st13, st14, st15, st16, st17, st18, st19, st20, st21, st22, st23, st24, st25, st26, st27, st28, st29, st30, st31, st32, st33, st34, st35, st36, st37, st38, st39, st40, st41, st42, st43, st44, st45, st46, st47, st48, st49, st50, st51, st52, st53, st54, st55, st56, st57, st58, st59, st60, st61, st62, st63, st64, st65, st66, st67, st68, st69, st70, st71, st72, st73, st74, st75, st76, st77, st78, st79, st80, st81, st82, st83, st84, st85, st86, st87, st88, st89, st90, st91, y1, y2, z1, hd0]))) <;> (try (first | omega | exact hz))
    refine c_add p2 (by simp; omega) (fun h3 p3 q3 => ?_)
    have y1 : hty h3 c = some (10, 7) := by rw [q3.2.1]; exact y1
    have y2 : hvr h3 c 0 = some (c + 1) := by rw [q3.2.2.1]; exact y2
    have z1 : hty h3 (c + 1) = some (4, 5) := by rw [q3.2.1]; exact z1
    (repeat' (first | with_reducible assumption | (refine And.intro ?_ ?_) | (with_reducible intro _) | (simp [wp_eq, wpE, mk_X10_type, mg, mc_X10_type, lget, lset, popN, cats, rcv, entL, isArr, kC_s, kC_n, st1, st2, st3, st4, st5, st6, st7, st8, st9, st10, st11, st12, st13, st14, st15, st16, st17, st18, st19, st20, st21, st22, st23, st24, st25, st26, st27, st28, st29, st30, st31, st32, st33, st34, st35, st36, st37, st38, st39, st40, st41, st42, st43, st44, st45, st46, st47, st48, st49, st50, st51, st52, st53, st54, st55, st56, st57, st58, st59, st60, st61, st62, st63, st64, st65, st66, st67, st68, st69, st70, st71, st72, st73, st74, st75, st76, st77, st78, st79, st80, st81, st82, st83, st84, st85, st86, st87, st88, st89, st90, st91, y1, y2, z1, hd0]))) <;> (try (first | omega | exact hz))
    refine c_add p3 (by simp; omega) (fun h4 p4 q4 => ?_)
    have y1 : hty h4 c = some (10, 7) := by rw [q4.2.1]; exact y1
    have y2 : hvr h4 c 0 = some (c + 1) := by rw [q4.2.2.1]; exact y2
    have z1 : hty h4 (c + 1) = some (4, 5) := by rw [q4.2.1]; exact z1
    (repeat' (first | with_reducible assumption | (refine And.intro ?_ ?_) | (with_reducible intro _) | (simp [wp_eq, wpE, mk_X10_type, mg, mc_X10_type, lget, lset, popN, cats, rcv, entL, isArr, kC_s, kC_n, st1, st2, st3, st4, st5, st6, st7, st8, st9, st10, st11, st12, st13, st14, st15, st16, st17, st18, st19, st20, st21, st22, st23, st24, st25, st26, st27, st28, st29, st30, st31, st32, st33, st34, st35, st36, st37, st38, st39, st40, st41, st42, st43, st44, st45, st46, st47, st48, st49, st50, st51, st52, st53, st54, st55, st56, st57, st58, st59, st60, st61, st62, st63, st64, st65, st66, st67, st68, st69, st70, st71, st72, st73, st74, st75, st76, st77, st78, st79, st80, st81, st82, st83, st84, st85, st86, st87, st88, st89, st90, st91, y1, y2, z1, hd0]))) <;> (try (first | omega | exact hz))
    refine c_add p4 (by simp; omega) (fun h5 p5 q5 => ?_)
    have y1 : hty h5 c = some (10, 7) := by rw [q5.2.1]; exact y1
    have y2 : hvr h5 c 0 = some (c + 1) := by rw [q5.2.2.1]; exact y2
    have z1 : hty h5 (c + 1) = some (4, 5) := by rw [q5.2.1]; exact z1
    have pA : L ++ chz a 4 ++ chz b 4 ++ chz e 4 ++ chz f 4 ++ chz g 4 = L ++ tyA a b e f g := by simp [tyA]
    rw [pA] at p5
    (repeat' (first | with_reducible assumption | (refine And.intro ?_ ?_) | (with_reducible intro _) | (simp [wp_eq, wpE, mk_X10_type, mg, mc_X10_type, lget, lset, popN, cats, rcv, entL, isArr, kC_s, kC_n, st1, st2, st3, st4, st5, st6, st7, st8, st9, st10, st11, st12, st13, st14, st15, st16, st17, st18, st19, st20, st21, st22, st23, st24, st25, st26, st27, st28, st29, st30, st31, st32, st33, st34, st35, st36, st37, st38, st39, st40, st41, st42, st43, st44, st45, st46, st47, st48, st49, st50, st51, st52, st53, st54, st55, st56, st57, st58, st59, st60, st61, st62, st63, st64, st65, st66, st67, st68, st69, st70, st71, st72, st73, st74, st75, st76, st77, st78, st79, st80, st81, st82, st83, st84, st85, st86, st87, st88, st89, st90, st91, y1, y2, z1, hd0]))) <;> (try (first | omega | exact hz))
    refine c_split p5 (fun h6 p6 q6 => ?_)
    have y1 : hty h6 c = some (10, 7) := by rw [q6.2.1]; exact y1
    have y2 : hvr h6 c 0 = some (c + 1) := by rw [q6.2.2.1]; exact y2
    have z1 : hty h6 (c + 1) = some (4, 5) := by rw [q6.2.1]; exact z1
    have z2 := p6.2.1.2.1
    have hz2 := hz h6 p6 (chI_trans (hS q1) (chI_trans (hS q2) (chI_trans (hS q3) (chI_trans (hS q4) (chI_trans (hS q5) (chI_mono (fun a z => by rcases z with z | z | z; exact Or.inl z; exact Or.inr (Or.inr (Or.inl z)); exact Or.inr (Or.inr (Or.inr z))) q6))))))
    (repeat' (first | with_reducible assumption | (refine And.intro ?_ ?_) | (with_reducible intro _) | (simp [wp_eq, wpE, mk_X10_type, mg, mc_X10_type, lget, lset, popN, cats, rcv, entL, isArr, kC_s, kC_n, st1, st2, st3, st4, st5, st6, st7, st8, st9, st10, st11, st12, st13, st14, st15, st16, st17, st18, st19, st20, st21, st22, st23, st24, st25, st26, st27, st28, st29, st30, st31, st32, st33, st34, st35, st36, st37, st38, st39, st40, st41, st42, st43, st44, st45, st46, st47, st48, st49, st50, st51, st52, st53, st54, st55, st56, st57, st58, st59, st60, st61, st62, st63, st64, st65, st66, st67, st68, st69, st70, st71, st72, st73, st74, st75, st76, st77, st78, st79, st80, st81, st82, st83, st84, st85, st86, st87, st88, st89, st90, st91, -List.length_append, y1, y2, z1, z2, hd0]))) <;> (try (first | omega | exact hz))
  · have hle : ¬ (L.length : Int) + ((chz a 4).length + (chz b 4).length + (chz e 4).length + (chz f 4).length + (chz g 4).length : Int) ≤ 100 := by omega
    have hz := hX hl
    (repeat' (first | with_reducible assumption | (refine c_charactersIn ?_) | (refine And.intro ?_ ?_) | (with_reducible intro _) | (simp [wp_eq, wpE, mk_X10_type, mg, mc_X10_type, lget, lset, popN, cats, rcv, entL, isArr, kC_s, kC_n, st1, st2, st3, st4, st5, st6, st7, st8, st9, st10, st11, st12, st13, st14, st15, st16, st17, st18, st19, st20, st21, st22, st23, st24, st25, st26, st27, st28, st29, st30, st31, st32, st33, st34, st35, st36, st37, st38, st39, st40, st41, st42, st43, st44, st45, st46, st47, st48, st49, st50, st51, st52, st53, st54, st55, st56, st57, st58, st59, st60, st61, st62, st63, st64, st65, st66, st67, st68, st69, st70, st71, st72, st73, st74, st75, st76, st77, st78, st79, st80, st81, st82, st83, st84, st85, st86, st87, st88, st89, st90, st91, x1, x2, a1, b2, hd0, inR, hle]))) <;> (try (first | omega | exact hz))
theorem p_node {G : Nat → Nat} {d c : Nat} {h : mH} {C : mQ} {X : mX} {L : List Int} {T : aT} {here : Nat} {O : List Int} {cp bad : Int} {fol : Bool} (hd : 8 ≤ d) (H : CS c h L T here O cp bad) (hC : ∀ h', CS c h' L T here O cp bad → C (some (.inl (nwR T here L 0 fol).1)) h') :
    callG (wp G) d 78 0 0 2 [.inr (.inl (some c)), .inl (b01 fol)] h C X := by
  have x1 : hty h c = some (10, 7) := H.1.1 (0, 10, 7) (by decide)
  refine cg 7 (by omega) (fun d hd => ?_)
  have hd0 : (0 < d) = True := eq_true (by omega)
  (repeat' (first | with_reducible assumption | (refine c_nodeOfWord (k := 0) (by omega) H ?_) | (refine And.intro ?_ ?_) | (with_reducible intro _) | (simp [wp_eq, wpE, mk_X10_node, mg, mc_X10_node, lget, lset, popN, cats, rcv, entL, isArr, kC_s, kC_n, st1, st2, st3, st4, st5, st6, st7, st8, st9, st10, st11, st12, st13, st14, st15, st16, st17, st18, st19, st20, st21, st22, st23, st24, st25, st26, st27, st28, st29, st30, st31, st32, st33, st34, st35, st36, st37, st38, st39, st40, st41, st42, st43, st44, st45, st46, st47, st48, st49, st50, st51, st52, st53, st54, st55, st56, st57, st58, st59, st60, st61, st62, st63, st64, st65, st66, st67, st68, st69, st70, st71, st72, st73, st74, st75, st76, st77, st78, st79, st80, st81, st82, st83, st84, st85, st86, st87, st88, st89, st90, st91, x1, hd0]))) <;> (try (first | omega | exact hz))
  all_goals
    rename_i h' p1 p2
    exact hC h' p1
theorem p_place {G : Nat → Nat} {d c : Nat} {h : mH} {C : mQ} {X : mX} {L : List Int} {T : aT} {here : Nat} {O : List Int} {cp bad : Int} (H : CS c h L T here O cp bad) (hC : C (some (.inl bad)) h) : callG (wp G) d 81 0 0 1 [.inr (.inl (some c))] h C X := by
  have x1 : hty h c = some (10, 7) := H.1.1 (0, 10, 7) (by decide)
  have x2 := H.2.2.2.2.2.2.2.1
  refine ⟨C, fun _ _ => False, ?_, fun _ _ q => q, fun _ _ q => q.elim⟩
  (repeat' (first | with_reducible assumption | (refine And.intro ?_ ?_) | (with_reducible intro _) | (simp [wp_eq, wpE, mk_X10_place, mg, mc_X10_place, lget, lset, popN, cats, rcv, entL, isArr, kC_s, kC_n, st1, st2, st3, st4, st5, st6, st7, st8, st9, st10, st11, st12, st13, st14, st15, st16, st17, st18, st19, st20, st21, st22, st23, st24, st25, st26, st27, st28, st29, st30, st31, st32, st33, st34, st35, st36, st37, st38, st39, st40, st41, st42, st43, st44, st45, st46, st47, st48, st49, st50, st51, st52, st53, st54, st55, st56, st57, st58, st59, st60, st61, st62, st63, st64, st65, st66, st67, st68, st69, st70, st71, st72, st73, st74, st75, st76, st77, st78, st79, st80, st81, st82, st83, st84, st85, st86, st87, st88, st89, st90, st91, x1, x2]))) <;> (try (first | omega | exact hz))
def outR (O : List Int) (z : Int) : Int := if 0 ≤ z ∧ z < (O.length : Int) then lf O z.toNat else 32
theorem p_output {G : Nat → Nat} {d c : Nat} {h : mH} {C : mQ} {X : mX} {L : List Int} {T : aT} {here : Nat} {O : List Int} {cp bad z : Int} (H : CS c h L T here O cp bad) (hC : C (some (.inl (outR O z))) h) : callG (wp G) d 82 0 0 2 [.inr (.inl (some c)), .inl z] h C X := by
  have x1 : hty h c = some (10, 7) := H.1.1 (0, 10, 7) (by decide)
  have x2 : hvr h c 3 = some (c + 12) := H.1.2 (0, 3, 12) (by decide)
  have x3 : hvr h (c + 12) 0 = some (c + 13) := H.1.2 (12, 0, 13) (by decide)
  obtain ⟨p1, p2, p3, p4, p5, p6⟩ := H.2.2.2.2.2.1
  have p2 : hty h (c + 13) = some (21, 1500) := p2
  unfold outR at hC
  refine ⟨C, fun _ _ => False, ?_, fun _ _ q => q, fun _ _ q => q.elim⟩
  by_cases hz : 0 ≤ z ∧ z < (O.length : Int)
  · rw [if_pos hz] at hC
    have hc : hvi h (c + 13) z.toNat = lf O z.toNat := by have := p5 z.toNat (by omega); simpa using this
    have hb := lf_b p6 z.toNat
    (repeat' (first | with_reducible assumption | (refine And.intro ?_ ?_) | (with_reducible intro _) | (simp [wp_eq, wpE, mk_X10_output, mg, mc_X10_output, lget, lset, popN, cats, rcv, entL, isArr, kC_s, kC_n, st1, st2, st3, st4, st5, st6, st7, st8, st9, st10, st11, st12, st13, st14, st15, st16, st17, st18, st19, st20, st21, st22, st23, st24, st25, st26, st27, st28, st29, st30, st31, st32, st33, st34, st35, st36, st37, st38, st39, st40, st41, st42, st43, st44, st45, st46, st47, st48, st49, st50, st51, st52, st53, st54, st55, st56, st57, st58, st59, st60, st61, st62, st63, st64, st65, st66, st67, st68, st69, st70, st71, st72, st73, st74, st75, st76, st77, st78, st79, st80, st81, st82, st83, st84, st85, st86, st87, st88, st89, st90, st91, x1, x2, x3, p1, p2, p3, hc]))) <;> (try (first | omega | exact hz))
  · rw [if_neg hz] at hC
    (repeat' (first | with_reducible assumption | (refine And.intro ?_ ?_) | (with_reducible intro _) | (simp [wp_eq, wpE, mk_X10_output, mg, mc_X10_output, lget, lset, popN, cats, rcv, entL, isArr, kC_s, kC_n, st1, st2, st3, st4, st5, st6, st7, st8, st9, st10, st11, st12, st13, st14, st15, st16, st17, st18, st19, st20, st21, st22, st23, st24, st25, st26, st27, st28, st29, st30, st31, st32, st33, st34, st35, st36, st37, st38, st39, st40, st41, st42, st43, st44, st45, st46, st47, st48, st49, st50, st51, st52, st53, st54, st55, st56, st57, st58, st59, st60, st61, st62, st63, st64, st65, st66, st67, st68, st69, st70, st71, st72, st73, st74, st75, st76, st77, st78, st79, st80, st81, st82, st83, st84, st85, st86, st87, st88, st89, st90, st91, x1, x2, x3, p1, p2, p3]))) <;> (try (first | omega | exact hz))
def telR (v : aN) (w : Int) : Int := if w = 0 then nK v else if w = 1 then nZ v else if w = 2 then nD v else if w = 3 then nT v else if w = 4 then (if nK v = 2 then ((nX v).length : Int) else ((nE v).length : Int)) else if w = 5 then nB v else -1
def tlN (T : aT) (z : Int) : Option aN := if 0 ≤ z ∧ z < 48 then T z.toNat else none
theorem p_tell {G : Nat → Nat} {d c : Nat} {h : mH} {C : mQ} {X : mX} {L : List Int} {T : aT} {here : Nat} {O : List Int} {cp bad z w : Int} (hd : 2 ≤ d) (H : CS c h L T here O cp bad) (hX : tlN T z = none → ∀ y, hsz h ≤ y → X 2 (hgrow h y)) (hC : ∀ v, tlN T z = some v → C (some (.inl (telR v w))) h) :
    callG (wp G) d 83 1 6 4 [.inr (.inl (some c)), .inl z, .inl w] h C X := by
  have x1 : hty h c = some (10, 7) := H.1.1 (0, 10, 7) (by decide)
  have x2 : hvr h c 1 = some (c + 5) := H.1.2 (0, 1, 5) (by decide)
  have h3 := H.2.2.1
  have h3' := h3
  obtain ⟨t1, t2, t3, t4, t5, t6, t7, t8⟩ := h3'
  refine ⟨C, X, ?_, fun _ _ q => q, fun _ _ q => q⟩
  obtain ⟨d, rfl⟩ : ∃ d', d = d' + 1 := ⟨d - 1, by omega⟩
  rw [Nat.add_sub_cancel]
  have hd0 : (0 < d) = True := eq_true (by omega)
  cases hv : tlN T z with
  | none =>
    have hr : (if 0 ≤ z ∧ z < 48 then hvr h (c + 5 + 1) z.toNat else none) = none := by
      unfold tlN at hv
      by_cases hz : 0 ≤ z ∧ z < 48
      · rw [if_pos hz] at hv ⊢; exact t6 _ (by omega) hv
      · rw [if_neg hz]
    have hz := hX hv
    (repeat' (first | with_reducible assumption | (refine c_at h3 ?_) | (refine And.intro ?_ ?_) | (with_reducible intro _) | (simp [wp_eq, wpE, mk_X10_tell, mg, mc_X10_tell, lget, lset, popN, cats, rcv, entL, isArr, kC_s, kC_n, st1, st2, st3, st4, st5, st6, st7, st8, st9, st10, st11, st12, st13, st14, st15, st16, st17, st18, st19, st20, st21, st22, st23, st24, st25, st26, st27, st28, st29, st30, st31, st32, st33, st34, st35, st36, st37, st38, st39, st40, st41, st42, st43, st44, st45, st46, st47, st48, st49, st50, st51, st52, st53, st54, st55, st56, st57, st58, st59, st60, st61, st62, st63, st64, st65, st66, st67, st68, st69, st70, st71, st72, st73, st74, st75, st76, st77, st78, st79, st80, st81, st82, st83, st84, st85, st86, st87, st88, st89, st90, st91, x1, x2, t1, hd0, hr]))) <;> (try (first | omega | exact hz))
  | some v =>
    have hT : T z.toNat = some v ∧ 0 ≤ z ∧ z < 48 := by
      unfold tlN at hv
      by_cases hz : 0 ≤ z ∧ z < 48
      · rw [if_pos hz] at hv; exact ⟨hv, hz⟩
      · rw [if_neg hz] at hv; cases hv
    obtain ⟨a, q1, q2⟩ := t7 _ v (by omega) hT.1
    have hr : (if 0 ≤ z ∧ z < 48 then hvr h (c + 5 + 1) z.toNat else none) = some a := by rw [if_pos hT.2]; exact q1
    obtain ⟨v1, v2, v3, v4, v5, v6, v7, v8, v9, v10, v11, v12, v13, v14, v15, v16⟩ := q2
    have hC := hC v hv
    unfold telR at hC
    by_cases w0 : w = 0
    · rw [if_pos w0] at hC
      (repeat' (first | with_reducible assumption | (refine c_at h3 ?_) | (refine And.intro ?_ ?_) | (with_reducible intro _) | (simp [wp_eq, wpE, mk_X10_tell, mg, mc_X10_tell, lget, lset, popN, cats, rcv, entL, isArr, kC_s, kC_n, st1, st2, st3, st4, st5, st6, st7, st8, st9, st10, st11, st12, st13, st14, st15, st16, st17, st18, st19, st20, st21, st22, st23, st24, st25, st26, st27, st28, st29, st30, st31, st32, st33, st34, st35, st36, st37, st38, st39, st40, st41, st42, st43, st44, st45, st46, st47, st48, st49, st50, st51, st52, st53, st54, st55, st56, st57, st58, st59, st60, st61, st62, st63, st64, st65, st66, st67, st68, st69, st70, st71, st72, st73, st74, st75, st76, st77, st78, st79, st80, st81, st82, st83, st84, st85, st86, st87, st88, st89, st90, st91, x1, x2, t1, hd0, hr, v1, v2, w0, swl]))) <;> (try (first | omega | exact hz))
    rw [if_neg w0] at hC
    by_cases w1 : w = 1
    · rw [if_pos w1] at hC
      (repeat' (first | with_reducible assumption | (refine c_at h3 ?_) | (refine And.intro ?_ ?_) | (with_reducible intro _) | (simp [wp_eq, wpE, mk_X10_tell, mg, mc_X10_tell, lget, lset, popN, cats, rcv, entL, isArr, kC_s, kC_n, st1, st2, st3, st4, st5, st6, st7, st8, st9, st10, st11, st12, st13, st14, st15, st16, st17, st18, st19, st20, st21, st22, st23, st24, st25, st26, st27, st28, st29, st30, st31, st32, st33, st34, st35, st36, st37, st38, st39, st40, st41, st42, st43, st44, st45, st46, st47, st48, st49, st50, st51, st52, st53, st54, st55, st56, st57, st58, st59, st60, st61, st62, st63, st64, st65, st66, st67, st68, st69, st70, st71, st72, st73, st74, st75, st76, st77, st78, st79, st80, st81, st82, st83, st84, st85, st86, st87, st88, st89, st90, st91, x1, x2, t1, hd0, hr, v1, v3, w1, swl]))) <;> (try (first | omega | exact hz))
    rw [if_neg w1] at hC
    by_cases w2 : w = 2
    · rw [if_pos w2] at hC
      (repeat' (first | with_reducible assumption | (refine c_at h3 ?_) | (refine And.intro ?_ ?_) | (with_reducible intro _) | (simp [wp_eq, wpE, mk_X10_tell, mg, mc_X10_tell, lget, lset, popN, cats, rcv, entL, isArr, kC_s, kC_n, st1, st2, st3, st4, st5, st6, st7, st8, st9, st10, st11, st12, st13, st14, st15, st16, st17, st18, st19, st20, st21, st22, st23, st24, st25, st26, st27, st28, st29, st30, st31, st32, st33, st34, st35, st36, st37, st38, st39, st40, st41, st42, st43, st44, st45, st46, st47, st48, st49, st50, st51, st52, st53, st54, st55, st56, st57, st58, st59, st60, st61, st62, st63, st64, st65, st66, st67, st68, st69, st70, st71, st72, st73, st74, st75, st76, st77, st78, st79, st80, st81, st82, st83, st84, st85, st86, st87, st88, st89, st90, st91, x1, x2, t1, hd0, hr, v1, v4, w2, swl]))) <;> (try (first | omega | exact hz))
    rw [if_neg w2] at hC
    by_cases w3 : w = 3
    · rw [if_pos w3] at hC
      (repeat' (first | with_reducible assumption | (refine c_at h3 ?_) | (refine And.intro ?_ ?_) | (with_reducible intro _) | (simp [wp_eq, wpE, mk_X10_tell, mg, mc_X10_tell, lget, lset, popN, cats, rcv, entL, isArr, kC_s, kC_n, st1, st2, st3, st4, st5, st6, st7, st8, st9, st10, st11, st12, st13, st14, st15, st16, st17, st18, st19, st20, st21, st22, st23, st24, st25, st26, st27, st28, st29, st30, st31, st32, st33, st34, st35, st36, st37, st38, st39, st40, st41, st42, st43, st44, st45, st46, st47, st48, st49, st50, st51, st52, st53, st54, st55, st56, st57, st58, st59, st60, st61, st62, st63, st64, st65, st66, st67, st68, st69, st70, st71, st72, st73, st74, st75, st76, st77, st78, st79, st80, st81, st82, st83, st84, st85, st86, st87, st88, st89, st90, st91, x1, x2, t1, hd0, hr, v1, v9, w3, swl]))) <;> (try (first | omega | exact hz))
    rw [if_neg w3] at hC
    by_cases w4 : w = 4
    · rw [if_pos w4] at hC
      by_cases hk2 : nK v = 2
      · rw [if_pos hk2] at hC
        (repeat' (first | with_reducible assumption | (refine c_at h3 ?_) | (refine And.intro ?_ ?_) | (with_reducible intro _) | (simp [wp_eq, wpE, mk_X10_tell, mg, mc_X10_tell, lget, lset, popN, cats, rcv, entL, isArr, kC_s, kC_n, st1, st2, st3, st4, st5, st6, st7, st8, st9, st10, st11, st12, st13, st14, st15, st16, st17, st18, st19, st20, st21, st22, st23, st24, st25, st26, st27, st28, st29, st30, st31, st32, st33, st34, st35, st36, st37, st38, st39, st40, st41, st42, st43, st44, st45, st46, st47, st48, st49, st50, st51, st52, st53, st54, st55, st56, st57, st58, st59, st60, st61, st62, st63, st64, st65, st66, st67, st68, st69, st70, st71, st72, st73, st74, st75, st76, st77, st78, st79, st80, st81, st82, st83, st84, st85, st86, st87, st88, st89, st90, st91, x1, x2, t1, hd0, hr, v1, v2, v5, v11, hk2, w4, swl]))) <;> (try (first | omega | exact hz))
      · rw [if_neg hk2] at hC
        (repeat' (first | with_reducible assumption | (refine c_at h3 ?_) | (refine And.intro ?_ ?_) | (with_reducible intro _) | (simp [wp_eq, wpE, mk_X10_tell, mg, mc_X10_tell, lget, lset, popN, cats, rcv, entL, isArr, kC_s, kC_n, st1, st2, st3, st4, st5, st6, st7, st8, st9, st10, st11, st12, st13, st14, st15, st16, st17, st18, st19, st20, st21, st22, st23, st24, st25, st26, st27, st28, st29, st30, st31, st32, st33, st34, st35, st36, st37, st38, st39, st40, st41, st42, st43, st44, st45, st46, st47, st48, st49, st50, st51, st52, st53, st54, st55, st56, st57, st58, st59, st60, st61, st62, st63, st64, st65, st66, st67, st68, st69, st70, st71, st72, st73, st74, st75, st76, st77, st78, st79, st80, st81, st82, st83, st84, st85, st86, st87, st88, st89, st90, st91, x1, x2, t1, hd0, hr, v1, v2, v7, hk2, w4, swl]))) <;> (try (first | omega | exact hz))
    rw [if_neg w4] at hC
    by_cases w5 : w = 5
    · rw [if_pos w5] at hC
      (repeat' (first | with_reducible assumption | (refine c_at h3 ?_) | (refine And.intro ?_ ?_) | (with_reducible intro _) | (simp [wp_eq, wpE, mk_X10_tell, mg, mc_X10_tell, lget, lset, popN, cats, rcv, entL, isArr, kC_s, kC_n, st1, st2, st3, st4, st5, st6, st7, st8, st9, st10, st11, st12, st13, st14, st15, st16, st17, st18, st19, st20, st21, st22, st23, st24, st25, st26, st27, st28, st29, st30, st31, st32, st33, st34, st35, st36, st37, st38, st39, st40, st41, st42, st43, st44, st45, st46, st47, st48, st49, st50, st51, st52, st53, st54, st55, st56, st57, st58, st59, st60, st61, st62, st63, st64, st65, st66, st67, st68, st69, st70, st71, st72, st73, st74, st75, st76, st77, st78, st79, st80, st81, st82, st83, st84, st85, st86, st87, st88, st89, st90, st91, x1, x2, t1, hd0, hr, v1, v8, w5, swl]))) <;> (try (first | omega | exact hz))
    rw [if_neg w5] at hC
    (repeat' (first | with_reducible assumption | (refine c_at h3 ?_) | (refine And.intro ?_ ?_) | (with_reducible intro _) | (simp [wp_eq, wpE, mk_X10_tell, mg, mc_X10_tell, lget, lset, popN, cats, rcv, entL, isArr, kC_s, kC_n, st1, st2, st3, st4, st5, st6, st7, st8, st9, st10, st11, st12, st13, st14, st15, st16, st17, st18, st19, st20, st21, st22, st23, st24, st25, st26, st27, st28, st29, st30, st31, st32, st33, st34, st35, st36, st37, st38, st39, st40, st41, st42, st43, st44, st45, st46, st47, st48, st49, st50, st51, st52, st53, st54, st55, st56, st57, st58, st59, st60, st61, st62, st63, st64, st65, st66, st67, st68, st69, st70, st71, st72, st73, st74, st75, st76, st77, st78, st79, st80, st81, st82, st83, st84, st85, st86, st87, st88, st89, st90, st91, x1, x2, t1, hd0, hr, w0, w1, w2, w3, w4, w5, swl]))) <;> (try (first | omega | exact hz))
def couR (T : aT) (O : List Int) (cp w : Int) : Int := if w = 0 then (cnt T 48 : Int) else if w = 1 then cp else if w = 2 then (O.length : Int) else -1
theorem p_count {G : Nat → Nat} {d c : Nat} {h : mH} {C : mQ} {X : mX} {L : List Int} {T : aT} {here : Nat} {O : List Int} {cp bad w : Int} (H : CS c h L T here O cp bad) (hC : C (some (.inl (couR T O cp w))) h) :
    callG (wp G) d 84 0 0 2 [.inr (.inl (some c)), .inl w] h C X := by
  have x1 : hty h c = some (10, 7) := H.1.1 (0, 10, 7) (by decide)
  have x2 : hvr h c 1 = some (c + 5) := H.1.2 (0, 1, 5) (by decide)
  have x3 : hvr h c 3 = some (c + 12) := H.1.2 (0, 3, 12) (by decide)
  have x4 : hvr h c 5 = some (c + 19) := H.1.2 (0, 5, 19) (by decide)
  have x5 : hty h (c + 19) = some (2, 14) := H.1.1 (19, 2, 14) (by decide)
  obtain ⟨h1, h2, h3, h4, h5, h6, h7, h8, h9, h10⟩ := H
  have t1 := h3.1
  have t4 := h3.2.2.2.1
  have p1 := h6.1
  have p3 := h6.2.2.1
  unfold couR at hC
  refine ⟨C, fun _ _ => False, ?_, fun _ _ q => q, fun _ _ q => q.elim⟩
  by_cases w0 : w = 0
  · rw [if_pos w0] at hC
    (repeat' (first | with_reducible assumption | (refine And.intro ?_ ?_) | (with_reducible intro _) | (simp [wp_eq, wpE, mk_X10_count, mg, mc_X10_count, lget, lset, popN, cats, rcv, entL, isArr, kC_s, kC_n, st1, st2, st3, st4, st5, st6, st7, st8, st9, st10, st11, st12, st13, st14, st15, st16, st17, st18, st19, st20, st21, st22, st23, st24, st25, st26, st27, st28, st29, st30, st31, st32, st33, st34, st35, st36, st37, st38, st39, st40, st41, st42, st43, st44, st45, st46, st47, st48, st49, st50, st51, st52, st53, st54, st55, st56, st57, st58, st59, st60, st61, st62, st63, st64, st65, st66, st67, st68, st69, st70, st71, st72, st73, st74, st75, st76, st77, st78, st79, st80, st81, st82, st83, st84, st85, st86, st87, st88, st89, st90, st91, x1, x2, t1, t4, w0, swl]))) <;> (try (first | omega | exact hz))
  rw [if_neg w0] at hC
  by_cases w1 : w = 1
  · rw [if_pos w1] at hC
    (repeat' (first | with_reducible assumption | (refine And.intro ?_ ?_) | (with_reducible intro _) | (simp [wp_eq, wpE, mk_X10_count, mg, mc_X10_count, lget, lset, popN, cats, rcv, entL, isArr, kC_s, kC_n, st1, st2, st3, st4, st5, st6, st7, st8, st9, st10, st11, st12, st13, st14, st15, st16, st17, st18, st19, st20, st21, st22, st23, st24, st25, st26, st27, st28, st29, st30, st31, st32, st33, st34, st35, st36, st37, st38, st39, st40, st41, st42, st43, st44, st45, st46, st47, st48, st49, st50, st51, st52, st53, st54, st55, st56, st57, st58, st59, st60, st61, st62, st63, st64, st65, st66, st67, st68, st69, st70, st71, st72, st73, st74, st75, st76, st77, st78, st79, st80, st81, st82, st83, st84, st85, st86, st87, st88, st89, st90, st91, x1, x4, x5, h7, w1, swl]))) <;> (try (first | omega | exact hz))
  rw [if_neg w1] at hC
  by_cases w2 : w = 2
  · rw [if_pos w2] at hC
    (repeat' (first | with_reducible assumption | (refine And.intro ?_ ?_) | (with_reducible intro _) | (simp [wp_eq, wpE, mk_X10_count, mg, mc_X10_count, lget, lset, popN, cats, rcv, entL, isArr, kC_s, kC_n, st1, st2, st3, st4, st5, st6, st7, st8, st9, st10, st11, st12, st13, st14, st15, st16, st17, st18, st19, st20, st21, st22, st23, st24, st25, st26, st27, st28, st29, st30, st31, st32, st33, st34, st35, st36, st37, st38, st39, st40, st41, st42, st43, st44, st45, st46, st47, st48, st49, st50, st51, st52, st53, st54, st55, st56, st57, st58, st59, st60, st61, st62, st63, st64, st65, st66, st67, st68, st69, st70, st71, st72, st73, st74, st75, st76, st77, st78, st79, st80, st81, st82, st83, st84, st85, st86, st87, st88, st89, st90, st91, x1, x3, p1, p3, w2, swl]))) <;> (try (first | omega | exact hz))
  rw [if_neg w2] at hC
  (repeat' (first | with_reducible assumption | (refine And.intro ?_ ?_) | (with_reducible intro _) | (simp [wp_eq, wpE, mk_X10_count, mg, mc_X10_count, lget, lset, popN, cats, rcv, entL, isArr, kC_s, kC_n, st1, st2, st3, st4, st5, st6, st7, st8, st9, st10, st11, st12, st13, st14, st15, st16, st17, st18, st19, st20, st21, st22, st23, st24, st25, st26, st27, st28, st29, st30, st31, st32, st33, st34, st35, st36, st37, st38, st39, st40, st41, st42, st43, st44, st45, st46, st47, st48, st49, st50, st51, st52, st53, st54, st55, st56, st57, st58, st59, st60, st61, st62, st63, st64, st65, st66, st67, st68, st69, st70, st71, st72, st73, st74, st75, st76, st77, st78, st79, st80, st81, st82, st83, st84, st85, st86, st87, st88, st89, st90, st91, w0, w1, w2, swl]))) <;> (try (first | omega | exact hz))
