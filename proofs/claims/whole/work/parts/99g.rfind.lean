/-! THE REFERENCE finds -/
theorem rdP_ge {L : List Int} : ∀ (f w o : Nat) (wn : Bool) (K : List aK), (rdP L f w o wn K).1 = -1 ∨ 0 ≤ (rdP L f w o wn K).1 := by
  intro f
  induction f with
  | zero => intro w o wn K; exact Or.inl rfl
  | succ f ih =>
    intro w o wn K
    rw [rdP]
    by_cases hw : w < (wds L).length
    · rw [if_neg (fun q => q hw)]
      generalize kdOf (wd L w) = k at *
      by_cases k1 : k = 1 ∨ k = 2
      · rw [if_pos k1]; exact ih _ _ _ _
      · rw [if_neg k1]
        by_cases k6 : 6 ≤ k
        · rw [if_pos k6]
          by_cases k12 : k < 12
          · rw [if_pos k12]
            generalize (if w + 1 < (wds L).length then opd k (wd L (w + 1)) else none) = p
            cases p with
            | none => right; simp only; omega
            | some p => exact ih _ _ _ _
          · rw [if_neg k12]; exact ih _ _ _ _
        · rw [if_neg k6]
          by_cases kb : wn = true ∨ k = 0 ∨ (k = 3 ∧ o = 0)
          · rw [if_pos kb]; right; simp only; omega
          · rw [if_neg kb]; exact ih _ _ _ _
    · rw [if_pos hw]
      by_cases h1 : wn = true ∨ 0 < o
      · rw [if_pos h1]; right; simp only; omega
      · rw [if_neg h1]; left; rfl
theorem fdK_ge (L : List Int) : (fdK L).1 = -1 ∨ 0 ≤ (fdK L).1 := by
  unfold fdK rdE
  by_cases hf : fdX L < (wds L).length
  · rw [if_neg (fun q => q hf)]; exact rdP_ge _ _ _ _ _
  · rw [if_pos hf]; exact Or.inl rfl
theorem lkW_le {T : aT} {here : Nat} {L : List Int} : ∀ ws, lkW T here L ws = 0 ∨ lkW T here L ws < 0 := by
  intro ws
  induction ws with
  | nil => exact Or.inl rfl
  | cons k ws ih =>
    simp only [lkW]
    by_cases h : (nwR T here L k.toNat true).1 < 0
    · rw [if_pos h]; exact Or.inr h
    · rw [if_neg h]; exact ih
theorem rf_cp {G : Nat → Nat} {d r : Nat} {C : mQ} {X : mX} {u : List Int} {x1 x2 x3 x4 : Option mV} (bu : bd u) (hu : u.length ≤ 100) : ∀ (m j : Nat) (h : mH), j + m = u.length → RN r h → hvi h r 25 = (u.length : Int) → ro h (r + 17) 0 u → ro h (r + 26) 0 (u.take j) →
    (∀ h' x5, chJ (sR r [26]) h h' → ro h' (r + 26) 0 u → wp G d 142 222 [some (.inr (.inl (some r))), x1, x2, x3, x4, x5] [] h' 0 0 C X) →
    wp G d 142 100193 [some (.inr (.inl (some r))), x1, x2, x3, x4, some (.inl (j : Int))] [] h 0 0 C X := by
  intro m
  induction m with
  | zero =>
    intro j h hj HR h25 hr hp hC
    have R0 := HR.1; have R_line := rn_line HR; have R_begins := rn_begins HR; have R_ends := rn_ends HR; have R_way := rn_way HR; have R_path := rn_path HR
    rw [List.take_of_length_le (by omega)] at hp
    have hz := fun x5 => hC h x5 chJ_refl hp
    rw [wp_hd]
    (repeat' (first | with_reducible assumption | (refine And.intro ?_ ?_) | (with_reducible intro _) | (simp [wp_ne 222, wpE, mk_X11_find, mg, mc_X11_find, lget, lset, popN, cats, rcv, entL, isArr, kC_s, kC_n, st1, st2, st3, st4, st5, st6, st7, st8, st9, st10, st11, st12, st13, st14, st15, st16, st17, st18, st19, st20, st21, st22, st23, st24, st25, st26, st27, st28, st29, st30, st31, st32, st33, st34, st35, st36, st37, st38, st39, st40, st41, st42, st43, st44, st45, st46, st47, st48, st49, st50, st51, st52, st53, st54, st55, st56, st57, st58, st59, st60, st61, st62, st63, st64, st65, st66, st67, st68, st69, st70, st71, st72, st73, st74, st75, st76, st77, st78, st79, st80, st81, st82, st83, st84, st85, st86, st87, st88, st89, st90, st91, R0, R_line, R_begins, R_ends, R_way, R_path, h25, show (u.length : Int) ≤ (j : Int) by omega]))) <;> (try (first | omega | exact hz))
    all_goals exact hz _
  | succ m ih =>
    intro j h hj HR h25 hr hp hC
    have R0 := HR.1; have R_line := rn_line HR; have R_begins := rn_begins HR; have R_ends := rn_ends HR; have R_way := rn_way HR; have R_path := rn_path HR
    have hju : j < u.length := by omega
    have cj : hvi h (r + 17) j = lf u j := by have := hr j hju; simpa using this
    have hbj : 0 ≤ lf u j ∧ lf u j < 256 := bu _ (by
      have : lf u j = u[j] := by simp [lf, List.getElem?_eq_getElem hju]
      rw [this]; exact List.getElem_mem _)
    have htk : u.take (j + 1) = u.take j ++ [lf u j] := by
      rw [List.take_succ, List.getElem?_eq_getElem hju]
      simp [lf, List.getElem?_eq_getElem hju]
    have htl : (u.take j).length = j := by simp; omega
    have q1 : chJ (sR r [26]) h (hsetI h (r + 26) j (lf u j)) := chJ_set (by simp [sR])
    have hz := ih (j + 1) (hsetI h (r + 26) j (lf u j)) (by omega) (RN_ch q1 HR) (by rw [chJ_fld q1 (by simp) (by simp)]; exact h25) (fun i hi => by rw [chJ_row q1 (by omega) (by simp)]; exact hr i hi) (by
      rw [htk]
      intro i hi
      simp only [List.length_append, List.length_cons, List.length_nil] at hi
      rw [hvi_I]
      by_cases hi2 : i < (u.take j).length
      · rw [if_neg (by omega), lf_app_l hi2]; exact hp i hi2
      · rw [if_pos (by omega), lf_app_r (by omega), show i - (u.take j).length = 0 by omega]; rfl) (fun h' x5 s1 s2 => hC h' x5 (chJ_trans q1 s1) s2)
    generalize lf u j = z at *
    rw [wp_hd]
    (repeat' (first | with_reducible assumption | (refine And.intro ?_ ?_) | (with_reducible intro _) | (simp [wp_ne 222, wpE, mk_X11_find, mg, mc_X11_find, lget, lset, popN, cats, rcv, entL, isArr, kC_s, kC_n, st1, st2, st3, st4, st5, st6, st7, st8, st9, st10, st11, st12, st13, st14, st15, st16, st17, st18, st19, st20, st21, st22, st23, st24, st25, st26, st27, st28, st29, st30, st31, st32, st33, st34, st35, st36, st37, st38, st39, st40, st41, st42, st43, st44, st45, st46, st47, st48, st49, st50, st51, st52, st53, st54, st55, st56, st57, st58, st59, st60, st61, st62, st63, st64, st65, st66, st67, st68, st69, st70, st71, st72, st73, st74, st75, st76, st77, st78, st79, st80, st81, st82, st83, st84, st85, st86, st87, st88, st89, st90, st91, R0, R_line, R_begins, R_ends, R_way, R_path, h25, cj, inR, hty_I, hvi_I, hvr_I, hvl_I, hsz_I, hty_R, hvi_R, hvr_R, hvl_R, hsz_R, hty_L, hvi_L, hvr_L, hvl_L, hsz_L, hty_P, hvi_P, hvr_P, hvl_P, hsz_P, hty_C, hvi_C, hvr_C, hvl_C, hsz_C, show ¬ (u.length : Int) ≤ (j : Int) by omega]))) <;> (try (first | omega | exact hz))
/-- what holds from the reading on -/
def FB (r : Nat) (h : mH) (Es : Nat → List aE) (L : List Int) (T : aT) (here : Nat) (pr : Int) : Prop := RS r h Es L T here [] 0 (-1) ∧ RW r h L ∧ hvi h r 38 = pr ∧ hvi h r 39 = 0 ∧ hvi h r 40 = 0 ∧ hvi h r 0 = 0
theorem FB_ch {r here : Nat} {h h' : mH} {Es : Nat → List aE} {L : List Int} {T : aT} {pr : Int} {l : List Nat} (q : chJ (sR r l) h h') (hl : ∀ c ∈ [0, 1, 2, 3, 4, 5, 6, 7, 8, 9, 10, 11, 12, 13, 14, 15, 16, 100, 113, 115, 116, 120, 121, 122, 138, 139, 140], ¬ c ∈ l) (H : FB r h Es L T here pr) : FB r h' Es L T here pr :=
  ⟨RS_ch q (fun c hc => hl c (by simp at hc ⊢; omega)) H.1, RW_ch q (fun c hc => hl c (by simp at hc ⊢; omega)) H.2.1, by rw [chJ_fld q (hl _ (by simp)) (hl _ (by simp))]; exact H.2.2.1, by rw [chJ_fld q (hl _ (by simp)) (hl _ (by simp))]; exact H.2.2.2.1, by rw [chJ_fld q (hl _ (by simp)) (hl _ (by simp))]; exact H.2.2.2.2.1, by rw [chJ_fld q (hl _ (by simp)) (hl _ (by simp))]; exact H.2.2.2.2.2⟩
theorem fdP_b {L : List Int} (hl : L.length ≤ 100) (bL : bd L) : bd (fdP L) ∧ 1 ≤ (fdP L).length ∧ (fdP L).length ≤ 100 := by
  unfold fdP
  by_cases hp : isPth L = true
  · rw [if_pos hp]
    have h1 := wds_at (isPth_0 hp)
    have h2 := wd_len L 0
    exact ⟨wd_b bL 0, by omega, by omega⟩
  · rw [if_neg hp]; exact ⟨fun x hx => by simp at hx; omega, by simp, by simp⟩
theorem rf_222 {G : Nat → Nat} {d r N p0 here : Nat} {h : mH} {C : mQ} {X : mX} {Es : Nat → List aE} {L : List Int} {T : aT} {pr : Int} {x1 x2 x3 x4 x5 : Option mV} (hd : 10 ≤ d) (hw : wf T here) (hb : 0 ≤ pr ∧ pr ≤ 999999) (h1 : (fdK L).1 = -1) (hlk : lkN T here L (fdK L).2 = 0) (HB : FB r h Es L T here pr) (HG : RG r h L T Es here pr (fdK L).2 N p0) (h25 : hvi h r 25 = ((fdP L).length : Int)) (h17 : ro h (r + 17) 0 (fdP L)) (h43 : hvi h r 43 = ((fdP L).length : Int)) (h26 : ro h (r + 26) 0 (fdP L))
    (hC : ∀ h', RS r h' Es L T here (fiO T here L pr) (fiC T here L pr) (fdK L).1 → hvi h' r 0 = 0 → C (some (.inl (fiR T here L pr))) h') :
    wp G d 142 222 [some (.inr (.inl (some r))), x1, x2, x3, x4, x5] [] h 0 0 C X := by
  have hd0 : (0 < d) = True := eq_true (by omega)
  obtain ⟨HS, HW, g38, g39, g40, g0⟩ := HB
  obtain ⟨s1, s2, s3, s4, s5, s6, s7, s8⟩ := HS
  have R0 := s1.1
  obtain ⟨bP, hP1, hP2⟩ := fdP_b s3.1 s3.2
  have hz0 : fdZ T here L = (wkR T false here (fdP L)).1 := rfl
  have cw : ∀ {C : mQ} {X : mX}, (∀ h', chJ (sR r [17, 18, 125, 126]) h h' → (∀ (n : Nat) c, wkR T false here (fdP L) = ((n : Int), c) → n < 48 ∧ cmR r h' Es n c) → C (some (.inl (wkR T false here (fdP L)).1)) h') → callG (wp G) d 107 0 0 8 [.inr (.inl (some r)), .inl 0] h C X := fun {C X} z => r_walk (fol := false) (by omega) (wf_W hw) (wf_unq hw) s1 s4 hw.2.1.1 h17 h25 (fun q => by rw [q] at hP1; simp at hP1) bP hP2 z
  simp [wp_eq, wpE, mk_X11_find, mg, mc_X11_find, lget, lset, popN, cats, rcv, entL, isArr, kC_s, kC_n, st1, st2, st3, st4, st5, st6, st7, st8, st9, st10, st11, st12, st13, st14, st15, st16, st17, st18, st19, st20, st21, st22, st23, st24, st25, st26, st27, st28, st29, st30, st31, st32, st33, st34, st35, st36, st37, st38, st39, st40, st41, st42, st43, st44, st45, st46, st47, st48, st49, st50, st51, st52, st53, st54, st55, st56, st57, st58, st59, st60, st61, st62, st63, st64, st65, st66, st67, st68, st69, st70, st71, st72, st73, st74, st75, st76, st77, st78, st79, st80, st81, st82, st83, st84, st85, st86, st87, st88, st89, st90, st91, R0, hd0]
  refine cw (fun h2 q2 p2 => ?_)
  rw [← hz0]
  have HB2 : FB r h2 Es L T here pr := FB_ch q2 (by simp) ⟨⟨s1, s2, s3, s4, s5, s6, s7, s8⟩, HW, g38, g39, g40, g0⟩
  by_cases hneg : fdZ T here L < 0
  · have hng : ¬ fdG T here L := fun q => by have := q.2.2; omega
    have eR : fiR T here L pr = fdZ T here L := by unfold fiR; rw [if_neg (by rw [h1]; simp), if_neg (by rw [hlk]; simp), if_pos hneg]
    have hz := hC h2 (by unfold fiO fiC; rw [if_neg hng, if_neg hng, h1]; exact HB2.1) HB2.2.2.2.2.2
    rw [eR] at hz
    generalize fdZ T here L = zz at *
    (repeat' (first | with_reducible assumption | (refine And.intro ?_ ?_) | (with_reducible intro _) | (simp [wp_eq, wpE, mk_X11_find, mg, mc_X11_find, lget, lset, popN, cats, rcv, entL, isArr, kC_s, kC_n, st1, st2, st3, st4, st5, st6, st7, st8, st9, st10, st11, st12, st13, st14, st15, st16, st17, st18, st19, st20, st21, st22, st23, st24, st25, st26, st27, st28, st29, st30, st31, st32, st33, st34, st35, st36, st37, st38, st39, st40, st41, st42, st43, st44, st45, st46, st47, st48, st49, st50, st51, st52, st53, st54, st55, st56, st57, st58, st59, st60, st61, st62, st63, st64, st65, st66, st67, st68, st69, st70, st71, st72, st73, st74, st75, st76, st77, st78, st79, st80, st81, st82, st83, st84, st85, st86, st87, st88, st89, st90, st91, hneg, show ¬ 0 ≤ zz by omega]))) <;> (try (first | omega | exact hz))
  · obtain ⟨n, hn⟩ : ∃ n : Nat, fdZ T here L = (n : Int) := ⟨(fdZ T here L).toNat, by omega⟩
    obtain ⟨v, hT⟩ := wkR_ex (u := fdP L) (fol := false) hw (by rw [← hz0]; exact hn)
    have hG : fdG T here L := ⟨h1, hlk, by omega⟩
    obtain ⟨o1, o2⟩ := rdE_ok (wds_len s3.1) h1
    have EVh : EV L T here (fdK L).2 pr := ⟨hw, rdE_k, o1, o2, hb⟩
    have h14 := tpN_14 (P := fdP L) hw hP1 (by rw [← hz0]; omega)
    obtain ⟨b1, b2, b3, b4, b5, b6, b7⟩ := tp_b hP1
    have G2 := RG_ch q2 (by simp) HG
    have HR2 := G2.1.1
    have R02 := HR2.1
    have r26 : ro h2 (r + 26) 0 (fdP L) := fun i hi => by rw [chJ_row q2 (by omega) (by simp)]; exact h26 i hi
    have r43 : hvi h2 r 43 = ((fdP L).length : Int) := by rw [chJ_fld q2 (by simp) (by simp)]; exact h43
    have q3 : chJ (sR r [144, 145, 153]) h2 (hsetI (hsetI (hsetI h2 r 44 (tpF (fdP L) : Int)) r 45 (tpE (fdP L) : Int)) r 53 (tpE (fdP L) : Int)) := chJ_trans (chJ_trans (chJ_set (by simp [sR])) (chJ_set (by simp [sR]))) (chJ_set (by simp [sR]))
    have etp : tpF (fdP L) + (tpN (fdP L)).length = tpE (fdP L) := by omega
    have Q3 : RQ r (hsetI (hsetI (hsetI h2 r 44 (tpF (fdP L) : Int)) r 45 (tpE (fdP L) : Int)) r 53 (tpE (fdP L) : Int)) (fdP L) (tpF (fdP L)) (tpN (fdP L)).length := ⟨by rw [chJ_fld q3 (by simp) (by simp)]; exact r43, by rw [hvi_I, if_neg (by omega), hvi_I, if_neg (by omega), hvi_I, if_pos ⟨rfl, rfl⟩], by rw [hvi_I, if_neg (by omega), hvi_I, if_pos ⟨rfl, rfl⟩, etp], fun i hi => by rw [chJ_row q3 (by omega) (by simp)]; exact r26 i hi⟩
    have v53 : hvi (hsetI (hsetI (hsetI h2 r 44 (tpF (fdP L) : Int)) r 45 (tpE (fdP L) : Int)) r 53 (tpE (fdP L) : Int)) r 53 = ((tpF (fdP L) + (tpN (fdP L)).length : Nat) : Int) := by rw [hvi_I, if_pos ⟨rfl, rfl⟩, etp]
    have HB3 := FB_ch q3 (by simp) HB2
    rw [hn]
    simp [wp_eq, wpE, mk_X11_find, mg, mc_X11_find, lget, lset, popN, cats, rcv, entL, isArr, kC_s, kC_n, st1, st2, st3, st4, st5, st6, st7, st8, st9, st10, st11, st12, st13, st14, st15, st16, st17, st18, st19, st20, st21, st22, st23, st24, st25, st26, st27, st28, st29, st30, st31, st32, st33, st34, st35, st36, st37, st38, st39, st40, st41, st42, st43, st44, st45, st46, st47, st48, st49, st50, st51, st52, st53, st54, st55, st56, st57, st58, st59, st60, st61, st62, st63, st64, st65, st66, st67, st68, st69, st70, st71, st72, st73, st74, st75, st76, st77, st78, st79, st80, st81, st82, st83, st84, st85, st86, st87, st88, st89, st90, st91, R02, hd0, show ¬ (n : Int) < 0 by omega]
    refine r_nameTop HR2 r26 (by omega) r43 ?_
    have G3 := RG_ch q3 (by simp) G2
    generalize hsetI (hsetI (hsetI h2 r 44 (tpF (fdP L) : Int)) r 45 (tpE (fdP L) : Int)) r 53 (tpE (fdP L) : Int) = h3 at *
    have R03 := G3.1.1.1
    obtain ⟨t1, t2, t3, t4, t5, t6, t7, t8⟩ := HB3.1
    have U3 : RU r h3 ((false, [], 0, false), 0) := ⟨⟨t6, by simpa using HB3.2.2.2.1, by simpa [b01] using HB3.2.2.2.2.1, by simp⟩, t7⟩
    simp [wp_eq, wpE, mk_X11_find, mg, mc_X11_find, lget, lset, popN, cats, rcv, entL, isArr, kC_s, kC_n, st1, st2, st3, st4, st5, st6, st7, st8, st9, st10, st11, st12, st13, st14, st15, st16, st17, st18, st19, st20, st21, st22, st23, st24, st25, st26, st27, st28, st29, st30, st31, st32, st33, st34, st35, st36, st37, st38, st39, st40, st41, st42, st43, st44, st45, st46, st47, st48, st49, st50, st51, st52, st53, st54, st55, st56, st57, st58, st59, st60, st61, st62, st63, st64, st65, st66, st67, st68, st69, st70, st71, st72, st73, st74, st75, st76, st77, st78, st79, st80, st81, st82, st83, st84, st85, st86, st87, st88, st89, st90, st91, R03, hd0]
    refine r_goThrough (by omega) EVh rdE_op G3 hT Q3 v53 b7 h14 (by omega) bP hP1 (by omega) U3 rfl rfl (fun h4 q4 U4 => ?_)
    have eU : fdU T here L pr = vis L T here (fdK L).2 pr 48 n (tpN (fdP L)) (fdP L) ((false, [], 0, false), 0) := by unfold fdU; rw [hn]; rfl
    rw [← eU] at U4
    have eR : fiR T here L pr = (if (fdU T here L pr).1.2.2.2 = true then -8 else ((fdU T here L pr).1.2.2.1 : Int)) := by
      unfold fiR
      rw [if_neg (by rw [h1]; simp), if_neg (by rw [hlk]; simp), if_neg hneg]
    obtain ⟨⟨u1, u2, u3, u4⟩, u5⟩ := U4
    have hz := hC h4 (by
      unfold fiO fiC
      rw [if_pos hG, if_pos hG, h1]
      exact ⟨RN_ch q4 t1, RP_ch q4 (by simp [sGT]) (by simp [sGT]) (by simp [sGT]) t2, t3, RT_ch q4 (by simp [sGT]) t4, fun j => by rw [chJ_row q4 (by omega) (by simp [sGT])]; exact t5 j, u1, u5, by rw [chJ_fld q4 (by simp [sGT]) (by simp [sGT])]; exact t8⟩) (by rw [chJ_fld q4 (by simp [sGT]) (by simp [sGT])]; exact HB3.2.2.2.2.2)
    rw [eR] at hz
    have R04 := (RN_ch q4 t1).1
    cases hfu : (fdU T here L pr).1.2.2.2 with
    | true =>
      rw [hfu] at u3 hz
      simp [b01] at u3 hz
      (repeat' (first | with_reducible assumption | (refine And.intro ?_ ?_) | (with_reducible intro _) | (simp [wp_eq, wpE, mk_X11_find, mg, mc_X11_find, lget, lset, popN, cats, rcv, entL, isArr, kC_s, kC_n, st1, st2, st3, st4, st5, st6, st7, st8, st9, st10, st11, st12, st13, st14, st15, st16, st17, st18, st19, st20, st21, st22, st23, st24, st25, st26, st27, st28, st29, st30, st31, st32, st33, st34, st35, st36, st37, st38, st39, st40, st41, st42, st43, st44, st45, st46, st47, st48, st49, st50, st51, st52, st53, st54, st55, st56, st57, st58, st59, st60, st61, st62, st63, st64, st65, st66, st67, st68, st69, st70, st71, st72, st73, st74, st75, st76, st77, st78, st79, st80, st81, st82, st83, st84, st85, st86, st87, st88, st89, st90, st91, R04, u2, u3]))) <;> (try (first | omega | exact hz))
    | false =>
      rw [hfu] at u3 hz
      simp [b01] at u3 hz
      (repeat' (first | with_reducible assumption | (refine And.intro ?_ ?_) | (with_reducible intro _) | (simp [wp_eq, wpE, mk_X11_find, mg, mc_X11_find, lget, lset, popN, cats, rcv, entL, isArr, kC_s, kC_n, st1, st2, st3, st4, st5, st6, st7, st8, st9, st10, st11, st12, st13, st14, st15, st16, st17, st18, st19, st20, st21, st22, st23, st24, st25, st26, st27, st28, st29, st30, st31, st32, st33, st34, st35, st36, st37, st38, st39, st40, st41, st42, st43, st44, st45, st46, st47, st48, st49, st50, st51, st52, st53, st54, st55, st56, st57, st58, st59, st60, st61, st62, st63, st64, st65, st66, st67, st68, st69, st70, st71, st72, st73, st74, st75, st76, st77, st78, st79, st80, st81, st82, st83, st84, st85, st86, st87, st88, st89, st90, st91, R04, u2, u3]))) <;> (try (first | omega | exact hz))
