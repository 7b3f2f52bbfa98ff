/-! a name and a pattern in the reference -/
def RB (r : Nat) (h : mH) (n : Nat) (R : Nat → Bool) : Prop := ∀ j, j ≤ n → hvi h (r + 31) j = b01 (R j)
theorem RB_set {r n i : Nat} {h : mH} {R : Nat → Bool} {v : Bool} (H : RB r h n R) : RB r (hsetI h (r + 31) i (b01 v)) n (fun j => if j = i then v else R j) := fun j hj => by
  show hvi (hsetI h (r + 31) i (b01 v)) (r + 31) j = b01 (if j = i then v else R j)
  rw [hvi_I]
  by_cases q : j = i
  · rw [if_pos ⟨rfl, q⟩, if_pos q]
  · rw [if_neg (fun z => q z.2), if_neg q]; exact H j hj
theorem RB_cg {r n : Nat} {h : mH} {R R' : Nat → Bool} (H : RB r h n R) (hR : ∀ j, j ≤ n → R j = R' j) : RB r h n R' := fun j hj => by rw [← hR j hj]; exact H j hj
theorem b01_ne (b : Bool) : (b01 b = 0) = (b = false) := by cases b <;> simp [b01]
/-- the loop of a star -/
theorem rm_star {G : Nat → Nat} {d r n : Nat} {C : mQ} {X : mX} {R : Nat → Bool} {x1 x3 x4 x5 x7 x8 x9 : Option mV} (hn : n ≤ 14) : ∀ (m k : Nat) (h : mH), RN r h → n + 1 = k + m → 1 ≤ k → RB r h n (fun j => if j < k then gst R j else R j) →
    (∀ h' x6, chJ (sR r [31]) h h' → RB r h' n (gst R) → wp G d 133 123 [some (.inr (.inl (some r))), x1, some (.inl (n : Int)), x3, x4, x5, x6, x7, x8, x9] [] h' 0 0 C X) →
    wp G d 133 100077 [some (.inr (.inl (some r))), x1, some (.inl (n : Int)), x3, x4, x5, some (.inl (k : Int)), x7, x8, x9] [] h 0 0 C X := by
  intro m
  induction m with
  | zero =>
    intro k h HR hk h1 HB hC
    have R0 := HR.1; have R_line := rn_line HR; have R_begins := rn_begins HR; have R_ends := rn_ends HR; have R_path := rn_path HR; have R_reach := rn_reach HR
    have hz := fun x6 => hC h x6 chJ_refl (RB_cg HB (fun j hj => by rw [if_pos (by omega)]))
    rw [wp_hd]
    (repeat' (first | with_reducible assumption | (refine And.intro ?_ ?_) | (with_reducible intro _) | (simp [wp_ne 123, wpE, mk_X11_matches, mg, mc_X11_matches, lget, lset, popN, cats, rcv, entL, isArr, kC_s, kC_n, st1, st2, st3, st4, st5, st6, st7, st8, st9, st10, st11, st12, st13, st14, st15, st16, st17, st18, st19, st20, st21, st22, st23, st24, st25, st26, st27, st28, st29, st30, st31, st32, st33, st34, st35, st36, st37, st38, st39, st40, st41, st42, st43, st44, st45, st46, st47, st48, st49, st50, st51, st52, st53, st54, st55, st56, st57, st58, st59, st60, st61, st62, st63, st64, st65, st66, st67, st68, st69, st70, st71, st72, st73, st74, st75, st76, st77, st78, st79, st80, st81, st82, st83, st84, st85, st86, st87, st88, st89, st90, st91, R0, R_line, R_begins, R_ends, R_path, R_reach, show (n : Int) < (k : Int) by omega]))) <;> (try (first | omega | exact hz))
    all_goals exact hz _
  | succ m ih =>
    intro k h HR hk h1 HB hC
    have R0 := HR.1; have R_line := rn_line HR; have R_begins := rn_begins HR; have R_ends := rn_ends HR; have R_path := rn_path HR; have R_reach := rn_reach HR
    have bk : hvi h (r + 31) k = b01 (if k < k then gst R k else R k) := HB k (by omega)
    have bk1 : hvi h (r + 31) (k - 1) = b01 (if k - 1 < k then gst R (k - 1) else R (k - 1)) := HB (k - 1) (by omega)
    rw [if_neg (by omega)] at bk
    rw [if_pos (by omega)] at bk1
    have e1 : ((k : Int) - 1).toNat = k - 1 := by omega
    have hg : gst R k = (R k || gst R (k - 1)) := by
      unfold gst
      by_cases hk : R k = true
      · have : ∃ i, i ≤ k ∧ R i = true := ⟨k, Nat.le_refl _, hk⟩
        simp [this, hk]
      · have hk' : R k = false := by simpa using hk
        rw [hk', Bool.false_or]
        congr 1
        refine propext ⟨fun ⟨i, hi, q⟩ => ⟨i, by
          by_cases hik : i = k
          · subst hik; rw [hk'] at q; cases q
          · omega, q⟩, fun ⟨i, hi, q⟩ => ⟨i, by omega, q⟩⟩
    have hz1 : wp G d 133 100077 [some (.inr (.inl (some r))), x1, some (.inl (n : Int)), x3, x4, x5, some (.inl ((k + 1 : Nat) : Int)), x7, x8, x9] [] (hsetI h (r + 31) k (b01 (gst R k))) 0 0 C X := ih (k + 1) _ (RN_ch (S := sR r [31]) (chJ_set (by simp [sR])) HR) (by omega) (by omega) (RB_cg (RB_set HB) (fun j hj => by
      by_cases q : j = k
      · subst q; rw [if_pos rfl, if_pos (by omega)]
      · rw [if_neg q]
        by_cases q2 : j < k
        · rw [if_pos q2, if_pos (by omega)]
        · rw [if_neg q2, if_neg (by omega)])) (fun h' x6 q1 q2 => hC h' x6 (chJ_trans (chJ_set (by simp [sR])) q1) q2)
    have hz := hz1
    rw [wp_hd]
    rw [hg] at hz
    cases hq1 : R k <;> cases hq2 : gst R (k - 1)
    all_goals
      rw [hq1] at bk hz
      rw [hq2] at bk1 hz
      simp [b01] at bk bk1 hz
      (repeat' (first | with_reducible assumption | (refine And.intro ?_ ?_) | (with_reducible intro _) | (simp [wp_ne 123, wpE, mk_X11_matches, mg, mc_X11_matches, lget, lset, popN, cats, rcv, entL, isArr, kC_s, kC_n, st1, st2, st3, st4, st5, st6, st7, st8, st9, st10, st11, st12, st13, st14, st15, st16, st17, st18, st19, st20, st21, st22, st23, st24, st25, st26, st27, st28, st29, st30, st31, st32, st33, st34, st35, st36, st37, st38, st39, st40, st41, st42, st43, st44, st45, st46, st47, st48, st49, st50, st51, st52, st53, st54, st55, st56, st57, st58, st59, st60, st61, st62, st63, st64, st65, st66, st67, st68, st69, st70, st71, st72, st73, st74, st75, st76, st77, st78, st79, st80, st81, st82, st83, st84, st85, st86, st87, st88, st89, st90, st91, R0, R_line, R_begins, R_ends, R_path, R_reach, bk, bk1, e1, inR, show ¬ (n : Int) < (k : Int) by omega]))) <;> (try (first | omega | exact hz))
/-- the loop of another sign -/
theorem rm_sign {G : Nat → Nat} {d r n fr i to : Nat} {C : mQ} {X : mX} {R : Nat → Bool} {L w : List Int} {x1 : Option mV} {se cl : Int} (hd : 1 ≤ d) (hl : L.length ≤ 100) (hto : to ≤ L.length) (hi : i < to) (hn : n ≤ 14) (hw : w.length = n) (hfn : fr + n ≤ 1000) (hcl : cl = clI (lf L) to i) (hse : se = se1 cl) : ∀ (k : Nat) (h : mH) (x8 x9 : Option mV), k ≤ n → RN r h → RP r h L → hvi h r 44 = (fr : Int) → ro h (r + 26) fr w → RB r h n (fun j => if j ≤ k then R j else glR (lf L) i cl w R j) →
    (∀ h' x7 x8 x9, chJ (sR r [31]) h h' → RB r h' n (glR (lf L) i cl w R) → wp G d 133 256 [some (.inr (.inl (some r))), x1, some (.inl (n : Int)), some (.inl (i : Int)), some (.inl (to : Int)), some (.inl (lf L i)), some (.inl se), x7, x8, x9] [] h' 0 0 C X) →
    wp G d 133 100152 [some (.inr (.inl (some r))), x1, some (.inl (n : Int)), some (.inl (i : Int)), some (.inl (to : Int)), some (.inl (lf L i)), some (.inl se), some (.inl (k : Int)), x8, x9] [] h 0 0 C X := by
  have hd0 : (0 < d) = True := eq_true (by omega)
  intro k
  induction k with
  | zero =>
    intro h x8 x9 hk HR HP h44 hr HB hC
    have R0 := HR.1; have R_line := rn_line HR; have R_begins := rn_begins HR; have R_ends := rn_ends HR; have R_path := rn_path HR; have R_reach := rn_reach HR
    have hq : chJ (sR r [31]) h (hsetI h (r + 31) 0 (b01 false)) := chJ_set (by simp [sR])
    have hz := hC _ (some (.inl ((0 : Nat) : Int))) x8 x9 hq (RB_cg (RB_set HB) (fun j hj => by
      by_cases q : j = 0
      · subst q; rw [if_pos rfl]; rfl
      · rw [if_neg q, if_neg (by omega)]))
    simp [b01] at hz
    rw [wp_hd]
    (repeat' (first | with_reducible assumption | (refine And.intro ?_ ?_) | (with_reducible intro _) | (simp [wp_ne 256, wpE, mk_X11_matches, mg, mc_X11_matches, lget, lset, popN, cats, rcv, entL, isArr, kC_s, kC_n, st1, st2, st3, st4, st5, st6, st7, st8, st9, st10, st11, st12, st13, st14, st15, st16, st17, st18, st19, st20, st21, st22, st23, st24, st25, st26, st27, st28, st29, st30, st31, st32, st33, st34, st35, st36, st37, st38, st39, st40, st41, st42, st43, st44, st45, st46, st47, st48, st49, st50, st51, st52, st53, st54, st55, st56, st57, st58, st59, st60, st61, st62, st63, st64, st65, st66, st67, st68, st69, st70, st71, st72, st73, st74, st75, st76, st77, st78, st79, st80, st81, st82, st83, st84, st85, st86, st87, st88, st89, st90, st91, R0, R_line, R_begins, R_ends, R_path, R_reach]))) <;> (try (first | omega | exact hz))
  | succ k ih =>
    intro h x8 x9 hk HR HP h44 hr HB hC
    have R0 := HR.1; have R_line := rn_line HR; have R_begins := rn_begins HR; have R_ends := rn_ends HR; have R_path := rn_path HR; have R_reach := rn_reach HR
    have ck : hvi h (r + 26) (fr + k) = lf w k := hr k (by omega)
    have e1 : ((fr : Int) + ((k : Int) + 1) - 1).toNat = fr + k := by omega
    have e2 : (((k : Int) + 1) - 1).toNat = k := by omega
    have bk : hvi h (r + 31) k = b01 (if k ≤ k + 1 then R k else glR (lf L) i cl w R k) := HB k (by omega)
    rw [if_pos (by omega)] at bk
    have hg : glR (lf L) i cl w R (k + 1) = (R k && fit (lf L) i cl (lf w k)) := rfl
    have q1 : ∀ v, chJ (sR r [31]) h (hsetI h (r + 31) (k + 1) v) := fun v => chJ_set (by simp [sR])
    have hz1 := fun x8 x9 => ih (hsetI h (r + 31) (k + 1) (b01 (glR (lf L) i cl w R (k + 1)))) x8 x9 (by omega) (RN_ch (q1 _) HR) (RP_ch (q1 _) (by simp) (by simp) (by simp) HP) (by rw [hvi_I, if_neg (by omega)]; exact h44) (fun j hj => by rw [hvi_I, if_neg (by omega)]; exact hr j hj) (RB_cg (RB_set HB) (fun j hj => by
      by_cases q : j = k + 1
      · subst q; rw [if_pos rfl, if_neg (by omega)]
      · rw [if_neg q]
        by_cases q2 : j ≤ k
        · rw [if_pos q2, if_pos (by omega)]
        · rw [if_neg q2, if_neg (by omega)])) (fun h' x7 x8 x9 s1 s2 => hC h' x7 x8 x9 (chJ_trans (q1 _) s1) s2)
    have fin : ∀ x8, wp G d 133 212 [some (.inr (.inl (some r))), x1, some (.inl (n : Int)), some (.inl (i : Int)), some (.inl (to : Int)), some (.inl (lf L i)), some (.inl se), some (.inl ((k : Int) + 1)), x8, x9] [.inl (b01 (fit (lf L) i cl (lf w k)))] h 0 0 C X := by
      intro x8
      have hz := hz1
      rw [hg] at hz
      cases hq1 : R k <;> cases hq2 : fit (lf L) i cl (lf w k)
      all_goals
        rw [hq1] at bk hz
        rw [hq2] at hz
        simp [b01] at bk hz
        simp only [b01, Bool.false_eq_true, if_false, if_true]
        (repeat' (first | with_reducible assumption | (refine And.intro ?_ ?_) | (with_reducible intro _) | (simp [wp_ne 256, wpE, mk_X11_matches, mg, mc_X11_matches, lget, lset, popN, cats, rcv, entL, isArr, kC_s, kC_n, st1, st2, st3, st4, st5, st6, st7, st8, st9, st10, st11, st12, st13, st14, st15, st16, st17, st18, st19, st20, st21, st22, st23, st24, st25, st26, st27, st28, st29, st30, st31, st32, st33, st34, st35, st36, st37, st38, st39, st40, st41, st42, st43, st44, st45, st46, st47, st48, st49, st50, st51, st52, st53, st54, st55, st56, st57, st58, st59, st60, st61, st62, st63, st64, st65, st66, st67, st68, st69, st70, st71, st72, st73, st74, st75, st76, st77, st78, st79, st80, st81, st82, st83, st84, st85, st86, st87, st88, st89, st90, st91, R0, R_line, R_begins, R_ends, R_path, R_reach, bk, e2, inR, show (k : Int) + 1 + -1 = (k : Int) by omega]))) <;> (try (first | omega | exact hz))
        all_goals first | omega | exact hz _ _
    have hz := fin
    rw [wp_hd]
    have k1 : ((k + 1 : Nat) : Int) = (k : Int) + 1 := by omega
    rw [k1]
    by_cases h63 : lf L i = 63
    · have hf : fit (lf L) i cl (lf w k) = true := by
        have : cl = -1 := by rw [hcl]; unfold clI; rw [if_neg (by rw [h63]; omega)]
        unfold fit; rw [if_pos this]; simp [h63]
      rw [hf] at hz
      simp only [b01, if_true, h63] at hz
      (repeat' (first | with_reducible assumption | (refine And.intro ?_ ?_) | (with_reducible intro _) | (simp [wp_ne 212, wpE, mk_X11_matches, mg, mc_X11_matches, lget, lset, popN, cats, rcv, entL, isArr, kC_s, kC_n, st1, st2, st3, st4, st5, st6, st7, st8, st9, st10, st11, st12, st13, st14, st15, st16, st17, st18, st19, st20, st21, st22, st23, st24, st25, st26, st27, st28, st29, st30, st31, st32, st33, st34, st35, st36, st37, st38, st39, st40, st41, st42, st43, st44, st45, st46, st47, st48, st49, st50, st51, st52, st53, st54, st55, st56, st57, st58, st59, st60, st61, st62, st63, st64, st65, st66, st67, st68, st69, st70, st71, st72, st73, st74, st75, st76, st77, st78, st79, st80, st81, st82, st83, st84, st85, st86, st87, st88, st89, st90, st91, R0, R_line, R_begins, R_ends, R_path, R_reach, h44, ck, e1, h63, inR]))) <;> (try (first | omega | exact hz))
      all_goals first | omega | exact hz _
    · rcases clI_rng (f := lf L) (to := to) (i := i) with q | ⟨q, eq, q1, q2, q3, q4⟩
      · rw [← hcl] at q
        have hs : se = -1 := by rw [hse, q]; rfl
        have hf : fit (lf L) i cl (lf w k) = (lf L i == lf w k) := by unfold fit; rw [if_pos q]; simp [h63]
        rw [hf, hs] at hz
        rw [hs]
        generalize lf L i = y at *
        generalize lf w k = y2 at *
        by_cases hy : y2 = y
        · simp [hy, b01] at hz
          (repeat' (first | with_reducible assumption | (refine And.intro ?_ ?_) | (with_reducible intro _) | (simp [wp_ne 212, wpE, mk_X11_matches, mg, mc_X11_matches, lget, lset, popN, cats, rcv, entL, isArr, kC_s, kC_n, st1, st2, st3, st4, st5, st6, st7, st8, st9, st10, st11, st12, st13, st14, st15, st16, st17, st18, st19, st20, st21, st22, st23, st24, st25, st26, st27, st28, st29, st30, st31, st32, st33, st34, st35, st36, st37, st38, st39, st40, st41, st42, st43, st44, st45, st46, st47, st48, st49, st50, st51, st52, st53, st54, st55, st56, st57, st58, st59, st60, st61, st62, st63, st64, st65, st66, st67, st68, st69, st70, st71, st72, st73, st74, st75, st76, st77, st78, st79, st80, st81, st82, st83, st84, st85, st86, st87, st88, st89, st90, st91, R0, R_line, R_begins, R_ends, R_path, R_reach, h44, ck, e1, h63, hy, inR]))) <;> (try (first | omega | exact hz))
          all_goals first | omega | exact hz _
        · have hy' : ¬ y = y2 := fun q => hy q.symm
          simp [hy', b01] at hz
          (repeat' (first | with_reducible assumption | (refine And.intro ?_ ?_) | (with_reducible intro _) | (simp [wp_ne 212, wpE, mk_X11_matches, mg, mc_X11_matches, lget, lset, popN, cats, rcv, entL, isArr, kC_s, kC_n, st1, st2, st3, st4, st5, st6, st7, st8, st9, st10, st11, st12, st13, st14, st15, st16, st17, st18, st19, st20, st21, st22, st23, st24, st25, st26, st27, st28, st29, st30, st31, st32, st33, st34, st35, st36, st37, st38, st39, st40, st41, st42, st43, st44, st45, st46, st47, st48, st49, st50, st51, st52, st53, st54, st55, st56, st57, st58, st59, st60, st61, st62, st63, st64, st65, st66, st67, st68, st69, st70, st71, st72, st73, st74, st75, st76, st77, st78, st79, st80, st81, st82, st83, st84, st85, st86, st87, st88, st89, st90, st91, R0, R_line, R_begins, R_ends, R_path, R_reach, h44, ck, e1, h63, hy, inR]))) <;> (try (first | omega | exact hz))
          all_goals first | omega | exact hz _
      · rw [← hcl] at eq
        have hs : se = (q : Int) + 1 := by rw [hse, eq]; unfold se1; rw [if_neg (by omega)]
        have hf : fit (lf L) i cl (lf w k) = isn (lf L) i q (lf w k) := by unfold fit; rw [if_neg (by omega), eq]; rfl
        have cin : ∀ {C : mQ} {X : mX}, C (some (.inl (b01 (isn (lf L) i q (lf w k))))) h → callG (wp G) d 132 0 0 7 [.inr (.inl (some r)), .inl (i : Int), .inl ((q : Int) + 1), .inl (lf w k)] h C X := fun {C X} z => r_inSet HR HP hl hto q3 z
        rw [hf, hs] at hz
        rw [hs]
        cases hb : isn (lf L) i q (lf w k)
        all_goals
          rw [hb] at cin hz
          simp [b01] at cin hz
          (repeat' (first | with_reducible assumption | (refine cin ?_) | (refine And.intro ?_ ?_) | (with_reducible intro _) | (simp [wp_ne 212, wpE, mk_X11_matches, mg, mc_X11_matches, lget, lset, popN, cats, rcv, entL, isArr, kC_s, kC_n, st1, st2, st3, st4, st5, st6, st7, st8, st9, st10, st11, st12, st13, st14, st15, st16, st17, st18, st19, st20, st21, st22, st23, st24, st25, st26, st27, st28, st29, st30, st31, st32, st33, st34, st35, st36, st37, st38, st39, st40, st41, st42, st43, st44, st45, st46, st47, st48, st49, st50, st51, st52, st53, st54, st55, st56, st57, st58, st59, st60, st61, st62, st63, st64, st65, st66, st67, st68, st69, st70, st71, st72, st73, st74, st75, st76, st77, st78, st79, st80, st81, st82, st83, st84, st85, st86, st87, st88, st89, st90, st91, R0, R_line, R_begins, R_ends, R_path, R_reach, h44, ck, e1, h63, hd0, inR, show ¬ (q : Int) + 1 ≤ 0 by omega, show 0 < (q : Int) + 1 by omega]))) <;> (try (first | omega | exact hz))
          all_goals first | omega | exact hz _
theorem rm_main {G : Nat → Nat} {d r n fr to : Nat} {C : mQ} {X : mX} {L w : List Int} {x1 : Option mV} (hd : 2 ≤ d) (hl : L.length ≤ 100) (hto : to ≤ L.length) (hn : n ≤ 14) (hw : w.length = n) (hfn : fr + n ≤ 1000) : ∀ (m i : Nat) (R : Nat → Bool) (h : mH) (x5 x6 x7 x8 x9 : Option mV), to < m + i → i ≤ to → RN r h → RP r h L → hvi h r 44 = (fr : Int) → ro h (r + 26) fr w → RB r h n R → (∀ h', chJ (sR r [31]) h h' → C (some (.inl (b01 (glb (lf L) to w m i R)))) h') →
    wp G d 133 100053 [some (.inr (.inl (some r))), x1, some (.inl (n : Int)), some (.inl (i : Int)), some (.inl (to : Int)), x5, x6, x7, x8, x9] [] h 0 0 C X := by
  have hd0 : (0 < d) = True := eq_true (by omega)
  intro m
  induction m with
  | zero => intro i R h x5 x6 x7 x8 x9 h1 h2; omega
  | succ m ih =>
    intro i R h x5 x6 x7 x8 x9 hm hi HR HP h44 hr HB hC
    have R0 := HR.1; have R_line := rn_line HR; have R_begins := rn_begins HR; have R_ends := rn_ends HR; have R_path := rn_path HR; have R_reach := rn_reach HR
    simp only [glb] at hC
    rw [wp_hd]
    by_cases hit : i < to
    · rw [if_pos hit] at hC
      have ci := HP.2 i (by omega) (by omega)
      have hnx := nxI_rng (f := lf L) hit
      have tr : ∀ {h1 : mH}, chJ (sR r [31]) h h1 → RN r h1 ∧ RP r h1 L ∧ hvi h1 r 44 = (fr : Int) ∧ ro h1 (r + 26) fr w := fun {h1} q => ⟨RN_ch q HR, RP_ch q (by simp) (by simp) (by simp) HP, by rw [chJ_fld q (by simp) (by simp)]; exact h44, fun j hj => by rw [chJ_row q (by omega) (by simp)]; exact hr j hj⟩
      have h1t : ¬ (to : Int) ≤ (i : Int) := by omega
      by_cases h42 : lf L i = 42
      · rw [if_pos h42] at hC
        have hcl42 : clI (lf L) to i = -1 := by unfold clI; rw [if_neg (by rw [h42]; omega)]
        have hnx1 : nxI (lf L) to i = i + 1 := by unfold nxI; rw [hcl42, if_pos rfl]
        rw [hnx1] at hC
        have hz := fun x7 x8 x9 => rm_star (G := G) (d := d) (C := C) (X := X) (R := R) (x1 := x1) (x3 := some (.inl (i : Int))) (x4 := some (.inl (to : Int))) (x5 := some (.inl 42)) (x7 := x7) (x8 := x8) (x9 := x9) hn n 1 h HR (by omega) (by omega) (RB_cg HB (fun j hj => by
          by_cases q : j < 1
          · rw [if_pos q, show j = 0 by omega]
            unfold gst
            cases hR0 : R 0 with
            | true => exact (decide_eq_true ⟨0, Nat.le_refl _, hR0⟩).symm
            | false =>
              have : ¬ ∃ i, i ≤ 0 ∧ R i = true := fun ⟨i, hi, q⟩ => by rw [show i = 0 by omega, hR0] at q; cases q
              exact (decide_eq_false this).symm
          · rw [if_neg q])) (fun h1 y6 q1 B1 => by
          obtain ⟨t1, t2, t3, t4⟩ := tr q1
          have hz := ih (i + 1) (gst R) h1 (some (.inl 42)) y6 x7 x8 x9 (by omega) (by omega) t1 t2 t3 t4 B1 (fun h' s1 => hC h' (chJ_trans q1 s1))
          (repeat' (first | with_reducible assumption | (refine And.intro ?_ ?_) | (with_reducible intro _) | (simp [wp_eq, wpE, mk_X11_matches, mg, mc_X11_matches, lget, lset, popN, cats, rcv, entL, isArr, kC_s, kC_n, st1, st2, st3, st4, st5, st6, st7, st8, st9, st10, st11, st12, st13, st14, st15, st16, st17, st18, st19, st20, st21, st22, st23, st24, st25, st26, st27, st28, st29, st30, st31, st32, st33, st34, st35, st36, st37, st38, st39, st40, st41, st42, st43, st44, st45, st46, st47, st48, st49, st50, st51, st52, st53, st54, st55, st56, st57, st58, st59, st60, st61, st62, st63, st64, st65, st66, st67, st68, st69, st70, st71, st72, st73, st74, st75, st76, st77, st78, st79, st80, st81, st82, st83, st84, st85, st86, st87, st88, st89, st90, st91, R0, R_line, R_begins, R_ends, R_path, R_reach, inR]))) <;> (try (first | omega | exact hz)))
        (repeat' (first | with_reducible assumption | (refine And.intro ?_ ?_) | (with_reducible intro _) | (simp [wp_eq, wpE, mk_X11_matches, mg, mc_X11_matches, lget, lset, popN, cats, rcv, entL, isArr, kC_s, kC_n, st1, st2, st3, st4, st5, st6, st7, st8, st9, st10, st11, st12, st13, st14, st15, st16, st17, st18, st19, st20, st21, st22, st23, st24, st25, st26, st27, st28, st29, st30, st31, st32, st33, st34, st35, st36, st37, st38, st39, st40, st41, st42, st43, st44, st45, st46, st47, st48, st49, st50, st51, st52, st53, st54, st55, st56, st57, st58, st59, st60, st61, st62, st63, st64, st65, st66, st67, st68, st69, st70, st71, st72, st73, st74, st75, st76, st77, st78, st79, st80, st81, st82, st83, st84, st85, st86, st87, st88, st89, st90, st91, R0, R_line, R_begins, R_ends, R_path, R_reach, ci, h42, h1t, hit]))) <;> (try (first | omega | exact hz))
        all_goals first | omega | exact hz _ _ _
      · rw [if_neg h42] at hC
        have hgo : ∀ x8 x9, wp G d 133 100152 [some (.inr (.inl (some r))), x1, some (.inl (n : Int)), some (.inl (i : Int)), some (.inl (to : Int)), some (.inl (lf L i)), some (.inl (se1 (clI (lf L) to i))), some (.inl (n : Int)), x8, x9] [] h 0 0 C X := by
          intro x8 x9
          refine rm_sign (R := R) (by omega) hl hto hit hn hw hfn rfl rfl n h x8 x9 (Nat.le_refl _) HR HP h44 hr (RB_cg HB (fun j hj => by rw [if_pos hj])) (fun h1 y7 y8 y9 q1 B1 => ?_)
          obtain ⟨t1, t2, t3, t4⟩ := tr q1
          have hz := ih (nxI (lf L) to i) _ h1 (some (.inl (lf L i))) (some (.inl (se1 (clI (lf L) to i)))) y7 y8 y9 (by omega) (by omega) t1 t2 t3 t4 B1 (fun h' s1 => hC h' (chJ_trans q1 s1))
          have hnxi : (nxI (lf L) to i : Int) = if 0 < se1 (clI (lf L) to i) then se1 (clI (lf L) to i) else (i : Int) + 1 := by
            unfold nxI
            rcases clI_rng (f := lf L) (to := to) (i := i) with q | ⟨q, eq, -⟩
            · rw [q]; simp [se1]
            · have s5 : se1 (q : Int) = (q : Int) + 1 := by unfold se1; rw [if_neg (by omega)]
              rw [eq, s5, if_neg (show ¬ (q : Int) = -1 by omega), if_pos (show 0 < (q : Int) + 1 by omega)]; simp
          rw [hnxi] at hz
          generalize se1 (clI (lf L) to i) = ss at *
          by_cases h0 : 0 < ss
          · rw [if_pos h0] at hz
            (repeat' (first | with_reducible assumption | (refine And.intro ?_ ?_) | (with_reducible intro _) | (simp [wp_eq, wpE, mk_X11_matches, mg, mc_X11_matches, lget, lset, popN, cats, rcv, entL, isArr, kC_s, kC_n, st1, st2, st3, st4, st5, st6, st7, st8, st9, st10, st11, st12, st13, st14, st15, st16, st17, st18, st19, st20, st21, st22, st23, st24, st25, st26, st27, st28, st29, st30, st31, st32, st33, st34, st35, st36, st37, st38, st39, st40, st41, st42, st43, st44, st45, st46, st47, st48, st49, st50, st51, st52, st53, st54, st55, st56, st57, st58, st59, st60, st61, st62, st63, st64, st65, st66, st67, st68, st69, st70, st71, st72, st73, st74, st75, st76, st77, st78, st79, st80, st81, st82, st83, st84, st85, st86, st87, st88, st89, st90, st91, R0, R_line, R_begins, R_ends, R_path, R_reach, h0, show ¬ ss ≤ 0 by omega, inR]))) <;> (try (first | omega | exact hz))
          · rw [if_neg h0] at hz
            (repeat' (first | with_reducible assumption | (refine And.intro ?_ ?_) | (with_reducible intro _) | (simp [wp_eq, wpE, mk_X11_matches, mg, mc_X11_matches, lget, lset, popN, cats, rcv, entL, isArr, kC_s, kC_n, st1, st2, st3, st4, st5, st6, st7, st8, st9, st10, st11, st12, st13, st14, st15, st16, st17, st18, st19, st20, st21, st22, st23, st24, st25, st26, st27, st28, st29, st30, st31, st32, st33, st34, st35, st36, st37, st38, st39, st40, st41, st42, st43, st44, st45, st46, st47, st48, st49, st50, st51, st52, st53, st54, st55, st56, st57, st58, st59, st60, st61, st62, st63, st64, st65, st66, st67, st68, st69, st70, st71, st72, st73, st74, st75, st76, st77, st78, st79, st80, st81, st82, st83, st84, st85, st86, st87, st88, st89, st90, st91, R0, R_line, R_begins, R_ends, R_path, R_reach, h0, show ss ≤ 0 by omega, inR]))) <;> (try (first | omega | exact hz))
        have hz := hgo
        by_cases h91 : lf L i = 91
        · have hcl : clI (lf L) to i = clsg (lf L) to i := by unfold clI; rw [if_pos h91]
          rw [hcl, h91] at hz
          (repeat' (first | with_reducible assumption | (refine r_setEnd HR HP hl hto hit ?_) | (refine And.intro ?_ ?_) | (with_reducible intro _) | (simp [wp_eq, wpE, mk_X11_matches, mg, mc_X11_matches, lget, lset, popN, cats, rcv, entL, isArr, kC_s, kC_n, st1, st2, st3, st4, st5, st6, st7, st8, st9, st10, st11, st12, st13, st14, st15, st16, st17, st18, st19, st20, st21, st22, st23, st24, st25, st26, st27, st28, st29, st30, st31, st32, st33, st34, st35, st36, st37, st38, st39, st40, st41, st42, st43, st44, st45, st46, st47, st48, st49, st50, st51, st52, st53, st54, st55, st56, st57, st58, st59, st60, st61, st62, st63, st64, st65, st66, st67, st68, st69, st70, st71, st72, st73, st74, st75, st76, st77, st78, st79, st80, st81, st82, st83, st84, st85, st86, st87, st88, st89, st90, st91, R0, R_line, R_begins, R_ends, R_path, R_reach, ci, h91, h1t, hit, hd0]))) <;> (try (first | omega | exact hz))
          all_goals first | omega | exact hz _ _
        · have hcl : clI (lf L) to i = -1 := by unfold clI; rw [if_neg h91]
          rw [hcl] at hz
          simp [se1] at hz
          (repeat' (first | with_reducible assumption | (refine And.intro ?_ ?_) | (with_reducible intro _) | (simp [wp_eq, wpE, mk_X11_matches, mg, mc_X11_matches, lget, lset, popN, cats, rcv, entL, isArr, kC_s, kC_n, st1, st2, st3, st4, st5, st6, st7, st8, st9, st10, st11, st12, st13, st14, st15, st16, st17, st18, st19, st20, st21, st22, st23, st24, st25, st26, st27, st28, st29, st30, st31, st32, st33, st34, st35, st36, st37, st38, st39, st40, st41, st42, st43, st44, st45, st46, st47, st48, st49, st50, st51, st52, st53, st54, st55, st56, st57, st58, st59, st60, st61, st62, st63, st64, st65, st66, st67, st68, st69, st70, st71, st72, st73, st74, st75, st76, st77, st78, st79, st80, st81, st82, st83, st84, st85, st86, st87, st88, st89, st90, st91, R0, R_line, R_begins, R_ends, R_path, R_reach, ci, h42, h91, h1t, hit]))) <;> (try (first | omega | exact hz))
          all_goals first | omega | exact hz _ _
    · rw [if_neg hit] at hC
      have hz := hC h chJ_refl
      have bn := HB n (Nat.le_refl _)
      rw [hw] at hz
      rw [← bn] at hz
      have b2 : hvi h (r + 31) n = 0 ∨ hvi h (r + 31) n = 1 := by rw [bn]; exact b01_or _
      (repeat' (first | with_reducible assumption | (refine And.intro ?_ ?_) | (with_reducible intro _) | (simp [wp_eq, wpE, mk_X11_matches, mg, mc_X11_matches, lget, lset, popN, cats, rcv, entL, isArr, kC_s, kC_n, st1, st2, st3, st4, st5, st6, st7, st8, st9, st10, st11, st12, st13, st14, st15, st16, st17, st18, st19, st20, st21, st22, st23, st24, st25, st26, st27, st28, st29, st30, st31, st32, st33, st34, st35, st36, st37, st38, st39, st40, st41, st42, st43, st44, st45, st46, st47, st48, st49, st50, st51, st52, st53, st54, st55, st56, st57, st58, st59, st60, st61, st62, st63, st64, st65, st66, st67, st68, st69, st70, st71, st72, st73, st74, st75, st76, st77, st78, st79, st80, st81, st82, st83, st84, st85, st86, st87, st88, st89, st90, st91, R0, R_line, R_begins, R_ends, R_path, R_reach, show (to : Int) ≤ (i : Int) by omega]))) <;> (try (first | omega | exact hz))
