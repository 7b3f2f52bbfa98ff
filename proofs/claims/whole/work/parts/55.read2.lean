def S5 (x a : Nat) : Prop := a = x ∨ a = x + 1 ∨ a = x + 2 ∨ a = x + 3 ∨ a = x + 4
theorem LI_cI {S : Nat → Prop} {l : Nat} {h h' : mH} {L : List Int} (q : chI S h h') (n0 : ¬ S l) (n1 : ¬ S (l + 1)) (n2 : ¬ S (l + 2)) (n3 : ¬ S (l + 3)) (H : LI l h L) : LI l h' L := by
  obtain ⟨hn, ⟨b1, b2, b3, b4, b5⟩, b6⟩ := H
  exact ⟨LN_ch q hn, ⟨b1, by rw [q.2.2.2.2 _ _ n0]; exact b2, fun i hi => by rw [q.2.2.2.2 _ _ n1]; exact b3 i hi, by rw [q.2.2.2.2 _ _ n0]; exact b4, fun k hk => by rw [q.2.2.2.2 _ _ n2, q.2.2.2.2 _ _ n3]; exact b5 k hk⟩, b6⟩
def rdP (L : List Int) : Nat → Nat → Nat → Bool → List aK → Int × List aK
  | 0, _, _, _, K => (-1, K)
  | f + 1, w, o, wn, K => if ¬ w < (wds L).length then ((if wn = true ∨ 0 < o then ((wds L).length : Int) else -1), K)
    else if kdOf (wd L w) = 1 ∨ kdOf (wd L w) = 2 then rdP L f (w + 1) (o + if kdOf (wd L w) = 2 then 1 else 0) true (K ++ [(kdOf (wd L w), 0, 0, 0)])
    else if 6 ≤ kdOf (wd L w) then
      if kdOf (wd L w) < 12 then match (if w + 1 < (wds L).length then opd (kdOf (wd L w)) (wd L (w + 1)) else none) with
        | some p => rdP L f (w + 2) o false (K ++ [(kdOf (wd L w), w + 1, p.1, p.2)])
        | none => (((w + 1 : Nat) : Int), K)
      else rdP L f (w + 1) o false (K ++ [(kdOf (wd L w), 0, 0, 0)])
    else if wn = true ∨ kdOf (wd L w) = 0 ∨ (kdOf (wd L w) = 3 ∧ o = 0) then ((w : Int), K)
    else rdP L f (w + 1) (o - if kdOf (wd L w) = 3 then 1 else 0) (!(kdOf (wd L w) == 3)) (K ++ [(kdOf (wd L w), 0, 0, 0)])
theorem EP_chN {x : Nat} {h h' : mH} {K : List aK} (q : chN x K.length h h') (H : EP x h K) : EP x h' K := by
  obtain ⟨g1, g2, g3, g4, g5⟩ := H
  have n0 : ¬ (x = x + 2 ∨ x = x + 3 ∨ x = x + 4) := by omega
  refine ⟨g1, by rw [q.1.2.2.2.2 _ _ n0]; exact g2, by rw [q.1.2.2.2.2 _ _ n0]; exact g3, by rw [q.1.2.2.2.2 _ _ n0]; exact g4, fun i t hi => ?_⟩
  have hil := (List.getElem?_eq_some_iff.mp hi).1
  obtain ⟨f1, f2, f3, f4⟩ := g5 i t hi
  exact ⟨by rw [q.2 _ _ (by omega)]; exact f1, fun z => by rw [q.2 _ _ (by omega)]; exact f2 z, fun z => by rw [q.2 _ _ (by omega)]; exact f3 z, fun z => by rw [q.2 _ _ (by omega)]; exact f4 z⟩
theorem XC_chI {S : Nat → Prop} {x l n : Nat} {h h' : mH} (q : chI S h h') (n0 : hvi h' x 5 = hvi h x 5) (H : XC x l h n) : XC x l h' n := by
  obtain ⟨e1, e2, e3, e4, e5, e6, e7, e8, e9, e10, e11⟩ := H
  exact ⟨by rw [q.2.1]; exact e1, by rw [q.2.2.1]; exact e2, by rw [q.2.2.1]; exact e3, by rw [q.2.2.1]; exact e4, by rw [q.2.2.1]; exact e5, by rw [q.2.2.1]; exact e6, by rw [q.2.1]; exact e7, by rw [q.2.1]; exact e8, by rw [q.2.1]; exact e9, by rw [q.2.1]; exact e10, by rw [n0]; exact e11⟩
theorem read_loop {G : Nat → Nat} {d x l : Nat} {C : mQ} {X : mX} {L : List Int} {x1 : Option mV} (hd : 9 ≤ d) (hxl : l + 4 ≤ x) : ∀ (f w o : Nat) (wn : Bool) (K : List aK) (h : mH) (x5 : Option mV), (wds L).length < f + w → o ≤ w → K.length ≤ w → XC x l h K.length → EP x h K → LI l h L →
    (∀ h', chI (S5 x) h h' → XC x l h' (rdP L f w o wn K).2.length → EP x h' (rdP L f w o wn K).2 → C (some (.inl (rdP L f w o wn K).1)) h') →
    w ≤ (wds L).length →
    wp G d 4 100041 [some (.inr (.inl (some x))), x1, some (.inl (o : Int)), some (.inl (b01 wn)), some (.inl (w : Int)), x5] [] h 0 0 C X := by
  have hd0 : (0 < d) = True := eq_true (by omega)
  intro f
  induction f with
  | zero =>
    intro w o wn K h x5 hf how hKw HX HE H hC hw1
    omega
  | succ f ih =>
    intro w o wn K h x5 hf how hKw HX HE H hC hw1
    have HX' := HX
    obtain ⟨e1, e2, e3, e4, e5, e6, e7, e8, e9, e10, e11⟩ := HX'
    have a1 := H.1.1
    have b4 := H.2.1.2.2.2.1
    have h50 := wds_len H.2.1.1
    simp only [rdP] at hC
    rw [wp_hd]
    by_cases hw : w < (wds L).length
    · rw [if_neg (fun q => q hw)] at hC
      have hnS : ∀ j, j < 4 → ¬ S5 x (l + j) := fun j hj q => by unfold S5 at q; omega
      have add176 : ∀ (t : aK) (o' : Nat) (wn' : Bool) (w' : Nat) (h2 : mH), XC x l h2 K.length → EP x h2 K → LI l h2 L → chI (S5 x) h h2 → (6 ≤ t.1 ∧ t.1 < 12 → hvi h2 (x + 2) K.length = (t.2.1 : Int)) → (7 ≤ t.1 ∧ t.1 ≤ 10 → hvi h2 (x + 3) K.length = t.2.2.1) → (8 ≤ t.1 ∧ t.1 ≤ 10 → hvi h2 (x + 4) K.length = t.2.2.2) → w ≤ w' → w' < (wds L).length → o' ≤ w' + 1 →
          (∀ h', chI (S5 x) h h' → XC x l h' (rdP L f (w' + 1) o' wn' (K ++ [t])).2.length → EP x h' (rdP L f (w' + 1) o' wn' (K ++ [t])).2 → C (some (.inl (rdP L f (w' + 1) o' wn' (K ++ [t])).1)) h') →
          wp G d 4 176 [some (.inr (.inl (some x))), x1, some (.inl (o' : Int)), some (.inl (b01 wn')), some (.inl (w' : Int)), some (.inl (t.1 : Int))] [] h2 0 0 C X := by
        intro t o' wn' w' h2 HX2 HE2 H2 q2 r2 r3 r4 hww hw'2 ho' hC'
        have u1 := HX2.1
        simp [wp_eq, wpE, mk_X1_read, mg, mc_X1_read, lget, lset, popN, cats, rcv, entL, isArr, kC_s, kC_n, st1, st2, st3, st4, st5, st6, st7, st8, st9, st10, st11, st12, st13, st14, st15, st16, st17, st18, st19, st20, st21, st22, st23, st24, st25, st26, st27, st28, st29, st30, st31, st32, st33, st34, st35, st36, st37, st38, st39, st40, st41, st42, st43, st44, st45, st46, st47, st48, st49, st50, st51, st52, st53, st54, st55, st56, st57, st58, st59, st60, st61, st62, st63, st64, st65, st66, st67, st68, st69, st70, st71, st72, st73, st74, st75, st76, st77, st78, st79, st80, st81, st82, st83, st84, st85, st86, st87, st88, st89, st90, st91, u1, hd0]
        refine c_addPart HX2 HE2 (by omega) r2 r3 r4 (fun h3 y1 y2 y3 => ?_)
        have v1 := y2.1
        have q3 : chI (S5 x) h2 h3 := chI_mono (fun a z => by rcases z with z | z; exact Or.inl z; exact Or.inr (Or.inl z)) y1
        have H3 := LI_cI q3 (hnS 0 (by omega)) (hnS 1 (by omega)) (hnS 2 (by omega)) (hnS 3 (by omega)) H2
        have hz := fun x5 => ih (w' + 1) o' wn' (K ++ [t]) h3 x5 (by omega) (by omega) (by simp; omega) y2 y3 H3 (fun h' z1 z2 z3 => hC' h' (chI_trans q2 (chI_trans q3 z1)) z2 z3) (by omega)
        (repeat' (first | with_reducible assumption | (refine And.intro ?_ ?_) | (with_reducible intro _) | (simp [wp_eq, wpE, mk_X1_read, mg, mc_X1_read, lget, lset, popN, cats, rcv, entL, isArr, kC_s, kC_n, st1, st2, st3, st4, st5, st6, st7, st8, st9, st10, st11, st12, st13, st14, st15, st16, st17, st18, st19, st20, st21, st22, st23, st24, st25, st26, st27, st28, st29, st30, st31, st32, st33, st34, st35, st36, st37, st38, st39, st40, st41, st42, st43, st44, st45, st46, st47, st48, st49, st50, st51, st52, st53, st54, st55, st56, st57, st58, st59, st60, st61, st62, st63, st64, st65, st66, st67, st68, st69, st70, st71, st72, st73, st74, st75, st76, st77, st78, st79, st80, st81, st82, st83, st84, st85, st86, st87, st88, st89, st90, st91, v1, inR]))) <;> (try (first | omega | exact hz))
        all_goals first | omega | exact hz _
      have ckd : ∀ {C : mQ} {X : mX}, C (some (.inl (kdOf (wd L w) : Int))) h → callG (wp G) d 6 0 0 2 [.inr (.inl (some x)), .inl (w : Int)] h C X := fun {C X} q => c_kindOf (by omega) e1 e2 H q
      have hw' : (w : Int) < ((wds L).length : Int) := by omega
      generalize hkk : kdOf (wd L w) = k at *
      by_cases k1 : k = 1
      · subst k1
        simp at hC
        have hz := add176 (1, 0, 0, 0) o true w h HX HE H chI_refl (fun q => by simp at q) (fun q => by simp at q) (fun q => by simp at q) (Nat.le_refl _) hw (by omega) hC
        (repeat' (first | with_reducible assumption | (refine ckd ?_) | (refine And.intro ?_ ?_) | (with_reducible intro _) | (simp [wp_ne 176, wpE, mk_X1_read, mg, mc_X1_read, lget, lset, popN, cats, rcv, entL, isArr, kC_s, kC_n, st1, st2, st3, st4, st5, st6, st7, st8, st9, st10, st11, st12, st13, st14, st15, st16, st17, st18, st19, st20, st21, st22, st23, st24, st25, st26, st27, st28, st29, st30, st31, st32, st33, st34, st35, st36, st37, st38, st39, st40, st41, st42, st43, st44, st45, st46, st47, st48, st49, st50, st51, st52, st53, st54, st55, st56, st57, st58, st59, st60, st61, st62, st63, st64, st65, st66, st67, st68, st69, st70, st71, st72, st73, st74, st75, st76, st77, st78, st79, st80, st81, st82, st83, st84, st85, st86, st87, st88, st89, st90, st91, e1, e2, a1, b4, hw, hd0, inR]))) <;> (try (first | omega | exact hz))
        all_goals (simp [b01] at hz; exact hz)
      by_cases k2 : k = 2
      · subst k2
        simp at hC
        have hz := add176 (2, 0, 0, 0) (o + 1) true w h HX HE H chI_refl (fun q => by simp at q) (fun q => by simp at q) (fun q => by simp at q) (Nat.le_refl _) hw (by omega) hC
        (repeat' (first | with_reducible assumption | (refine ckd ?_) | (refine And.intro ?_ ?_) | (with_reducible intro _) | (simp [wp_ne 176, wpE, mk_X1_read, mg, mc_X1_read, lget, lset, popN, cats, rcv, entL, isArr, kC_s, kC_n, st1, st2, st3, st4, st5, st6, st7, st8, st9, st10, st11, st12, st13, st14, st15, st16, st17, st18, st19, st20, st21, st22, st23, st24, st25, st26, st27, st28, st29, st30, st31, st32, st33, st34, st35, st36, st37, st38, st39, st40, st41, st42, st43, st44, st45, st46, st47, st48, st49, st50, st51, st52, st53, st54, st55, st56, st57, st58, st59, st60, st61, st62, st63, st64, st65, st66, st67, st68, st69, st70, st71, st72, st73, st74, st75, st76, st77, st78, st79, st80, st81, st82, st83, st84, st85, st86, st87, st88, st89, st90, st91, e1, e2, a1, b4, hw, hd0, inR]))) <;> (try (first | omega | exact hz))
        all_goals first | omega | (simp [b01] at hz; exact hz)
      rw [if_neg (fun q => q.elim k1 k2)] at hC
      have k1' : ¬ (k : Int) = 1 := by omega
      have k2' : ¬ (k : Int) = 2 := by omega
      by_cases k6 : 6 ≤ k
      · rw [if_pos k6] at hC
        have k6' : ¬ (k : Int) < 6 := by omega
        by_cases k12 : k < 12
        · rw [if_pos k12] at hC
          have k12' : (k : Int) < 12 := by omega
          (repeat' (first | with_reducible assumption | (refine ckd ?_) | (refine And.intro ?_ ?_) | (with_reducible intro _) | (simp [wp_ne 176, wpE, mk_X1_read, mg, mc_X1_read, lget, lset, popN, cats, rcv, entL, isArr, kC_s, kC_n, st1, st2, st3, st4, st5, st6, st7, st8, st9, st10, st11, st12, st13, st14, st15, st16, st17, st18, st19, st20, st21, st22, st23, st24, st25, st26, st27, st28, st29, st30, st31, st32, st33, st34, st35, st36, st37, st38, st39, st40, st41, st42, st43, st44, st45, st46, st47, st48, st49, st50, st51, st52, st53, st54, st55, st56, st57, st58, st59, st60, st61, st62, st63, st64, st65, st66, st67, st68, st69, st70, st71, st72, st73, st74, st75, st76, st77, st78, st79, st80, st81, st82, st83, st84, st85, st86, st87, st88, st89, st90, st91, e1, e2, a1, b4, hw, hd0, k1, k2, k6, k12, inR]))) <;> (try (first | omega | exact hz))
          all_goals first | omega | skip
          refine c_readOperand (w := w + 1) (n := K.length) (by omega) HX (by omega) H (fun h' q => LI_cI q.1 (fun z => by omega) (fun z => by omega) (fun z => by omega) (fun z => by omega) H) ⟨k6, k12⟩ (fun q h' q1 => ?_) (fun v s q1 q2 h' q3 q4 q5 q6 => ?_)
          · have hm : (if w + 1 < (wds L).length then opd k (wd L (w + 1)) else none) = none := by
              by_cases z : w + 1 < (wds L).length
              · rw [if_pos z]
                cases ho : opd k (wd L (w + 1)) with
                | none => rfl
                | some p => exact absurd ⟨z, by rw [ho]; rfl⟩ q
              · rw [if_neg z]
            rw [hm] at hC
            have hz := hC h' (chI_mono (fun a z => by unfold S5; omega) q1.1) (XC_chI q1.1 (q1.1.2.2.2.2 _ _ (by omega)) HX) (EP_chN q1 HE)
            (repeat' (first | with_reducible assumption | (refine And.intro ?_ ?_) | (with_reducible intro _) | (simp [wp_ne 176, wpE, mk_X1_read, mg, mc_X1_read, lget, lset, popN, cats, rcv, entL, isArr, kC_s, kC_n, st1, st2, st3, st4, st5, st6, st7, st8, st9, st10, st11, st12, st13, st14, st15, st16, st17, st18, st19, st20, st21, st22, st23, st24, st25, st26, st27, st28, st29, st30, st31, st32, st33, st34, st35, st36, st37, st38, st39, st40, st41, st42, st43, st44, st45, st46, st47, st48, st49, st50, st51, st52, st53, st54, st55, st56, st57, st58, st59, st60, st61, st62, st63, st64, st65, st66, st67, st68, st69, st70, st71, st72, st73, st74, st75, st76, st77, st78, st79, st80, st81, st82, st83, st84, st85, st86, st87, st88, st89, st90, st91]))) <;> (try (first | omega | exact hz))
          · have hm : (if w + 1 < (wds L).length then opd k (wd L (w + 1)) else none) = some (v, s) := by rw [if_pos q1]; exact q2
            rw [hm] at hC
            have hz := add176 (k, w + 1, v, s) o false (w + 1) h' (XC_chI q3.1 (q3.1.2.2.2.2 _ _ (by omega)) HX) (EP_chN q3 HE) (LI_cI q3.1 (fun z => by omega) (fun z => by omega) (fun z => by omega) (fun z => by omega) H) (chI_mono (fun a z => by unfold S5; omega) q3.1) (fun _ => q4) q5 q6 (by omega) q1 (by omega) hC
            (repeat' (first | with_reducible assumption | (refine And.intro ?_ ?_) | (with_reducible intro _) | (simp [wp_ne 176, wpE, mk_X1_read, mg, mc_X1_read, lget, lset, popN, cats, rcv, entL, isArr, kC_s, kC_n, st1, st2, st3, st4, st5, st6, st7, st8, st9, st10, st11, st12, st13, st14, st15, st16, st17, st18, st19, st20, st21, st22, st23, st24, st25, st26, st27, st28, st29, st30, st31, st32, st33, st34, st35, st36, st37, st38, st39, st40, st41, st42, st43, st44, st45, st46, st47, st48, st49, st50, st51, st52, st53, st54, st55, st56, st57, st58, st59, st60, st61, st62, st63, st64, st65, st66, st67, st68, st69, st70, st71, st72, st73, st74, st75, st76, st77, st78, st79, st80, st81, st82, st83, st84, st85, st86, st87, st88, st89, st90, st91]))) <;> (try (first | omega | exact hz))
            all_goals (simp [b01] at hz; exact hz)
        · rw [if_neg k12] at hC
          have hz := add176 (k, 0, 0, 0) o false w h HX HE H chI_refl (fun q => by simp at q; omega) (fun q => by simp at q; omega) (fun q => by simp at q; omega) (Nat.le_refl _) hw (by omega) hC
          (repeat' (first | with_reducible assumption | (refine ckd ?_) | (refine And.intro ?_ ?_) | (with_reducible intro _) | (simp [wp_ne 176, wpE, mk_X1_read, mg, mc_X1_read, lget, lset, popN, cats, rcv, entL, isArr, kC_s, kC_n, st1, st2, st3, st4, st5, st6, st7, st8, st9, st10, st11, st12, st13, st14, st15, st16, st17, st18, st19, st20, st21, st22, st23, st24, st25, st26, st27, st28, st29, st30, st31, st32, st33, st34, st35, st36, st37, st38, st39, st40, st41, st42, st43, st44, st45, st46, st47, st48, st49, st50, st51, st52, st53, st54, st55, st56, st57, st58, st59, st60, st61, st62, st63, st64, st65, st66, st67, st68, st69, st70, st71, st72, st73, st74, st75, st76, st77, st78, st79, st80, st81, st82, st83, st84, st85, st86, st87, st88, st89, st90, st91, e1, e2, a1, b4, hw, hd0, k1, k2, k6, k12, inR]))) <;> (try (first | omega | exact hz))
          all_goals first | omega | (simp [b01] at hz; exact hz)
      · rw [if_neg k6] at hC
        by_cases hcond : wn = true ∨ k = 0 ∨ (k = 3 ∧ o = 0)
        · rw [if_pos hcond] at hC
          have hz := hC h chI_refl HX HE
          cases wn
          · have hc2 : k = 0 ∨ (k = 3 ∧ o = 0) := by simpa using hcond
            rcases hc2 with rfl | ⟨rfl, rfl⟩
            · (repeat' (first | with_reducible assumption | (refine ckd ?_) | (refine And.intro ?_ ?_) | (with_reducible intro _) | (simp [wp_ne 176, wpE, mk_X1_read, mg, mc_X1_read, lget, lset, popN, cats, rcv, entL, isArr, kC_s, kC_n, st1, st2, st3, st4, st5, st6, st7, st8, st9, st10, st11, st12, st13, st14, st15, st16, st17, st18, st19, st20, st21, st22, st23, st24, st25, st26, st27, st28, st29, st30, st31, st32, st33, st34, st35, st36, st37, st38, st39, st40, st41, st42, st43, st44, st45, st46, st47, st48, st49, st50, st51, st52, st53, st54, st55, st56, st57, st58, st59, st60, st61, st62, st63, st64, st65, st66, st67, st68, st69, st70, st71, st72, st73, st74, st75, st76, st77, st78, st79, st80, st81, st82, st83, st84, st85, st86, st87, st88, st89, st90, st91, e1, e2, a1, b4, hw, hd0, b01, inR]))) <;> (try (first | omega | exact hz))
            · (repeat' (first | with_reducible assumption | (refine ckd ?_) | (refine And.intro ?_ ?_) | (with_reducible intro _) | (simp [wp_ne 176, wpE, mk_X1_read, mg, mc_X1_read, lget, lset, popN, cats, rcv, entL, isArr, kC_s, kC_n, st1, st2, st3, st4, st5, st6, st7, st8, st9, st10, st11, st12, st13, st14, st15, st16, st17, st18, st19, st20, st21, st22, st23, st24, st25, st26, st27, st28, st29, st30, st31, st32, st33, st34, st35, st36, st37, st38, st39, st40, st41, st42, st43, st44, st45, st46, st47, st48, st49, st50, st51, st52, st53, st54, st55, st56, st57, st58, st59, st60, st61, st62, st63, st64, st65, st66, st67, st68, st69, st70, st71, st72, st73, st74, st75, st76, st77, st78, st79, st80, st81, st82, st83, st84, st85, st86, st87, st88, st89, st90, st91, e1, e2, a1, b4, hw, hd0, b01, inR]))) <;> (try (first | omega | exact hz))
          · (repeat' (first | with_reducible assumption | (refine ckd ?_) | (refine And.intro ?_ ?_) | (with_reducible intro _) | (simp [wp_ne 176, wpE, mk_X1_read, mg, mc_X1_read, lget, lset, popN, cats, rcv, entL, isArr, kC_s, kC_n, st1, st2, st3, st4, st5, st6, st7, st8, st9, st10, st11, st12, st13, st14, st15, st16, st17, st18, st19, st20, st21, st22, st23, st24, st25, st26, st27, st28, st29, st30, st31, st32, st33, st34, st35, st36, st37, st38, st39, st40, st41, st42, st43, st44, st45, st46, st47, st48, st49, st50, st51, st52, st53, st54, st55, st56, st57, st58, st59, st60, st61, st62, st63, st64, st65, st66, st67, st68, st69, st70, st71, st72, st73, st74, st75, st76, st77, st78, st79, st80, st81, st82, st83, st84, st85, st86, st87, st88, st89, st90, st91, e1, e2, a1, b4, hw, hd0, k1, k2, k6, b01, inR]))) <;> (try (first | omega | exact hz))
        · rw [if_neg hcond] at hC
          have hwn : wn = false := by
            cases wn
            · rfl
            · exact absurd (Or.inl rfl) hcond
          subst hwn
          have hk0 : ¬ k = 0 := fun q => hcond (Or.inr (Or.inl q))
          by_cases k3 : k = 3
          · subst k3
            have ho : ¬ o = 0 := fun q => hcond (Or.inr (Or.inr ⟨rfl, q⟩))
            have hz := add176 (3, 0, 0, 0) (o - 1) false w h HX HE H chI_refl (fun q => by simp at q) (fun q => by simp at q) (fun q => by simp at q) (Nat.le_refl _) hw (by omega) (by simpa using hC)
            rw [show ((o - 1 : Nat) : Int) = (o : Int) - 1 by omega] at hz
            (repeat' (first | with_reducible assumption | (refine ckd ?_) | (refine And.intro ?_ ?_) | (with_reducible intro _) | (simp [wp_ne 176, wpE, mk_X1_read, mg, mc_X1_read, lget, lset, popN, cats, rcv, entL, isArr, kC_s, kC_n, st1, st2, st3, st4, st5, st6, st7, st8, st9, st10, st11, st12, st13, st14, st15, st16, st17, st18, st19, st20, st21, st22, st23, st24, st25, st26, st27, st28, st29, st30, st31, st32, st33, st34, st35, st36, st37, st38, st39, st40, st41, st42, st43, st44, st45, st46, st47, st48, st49, st50, st51, st52, st53, st54, st55, st56, st57, st58, st59, st60, st61, st62, st63, st64, st65, st66, st67, st68, st69, st70, st71, st72, st73, st74, st75, st76, st77, st78, st79, st80, st81, st82, st83, st84, st85, st86, st87, st88, st89, st90, st91, e1, e2, a1, b4, hw, hd0, ho, b01, inR]))) <;> (try (first | omega | exact hz))
            all_goals first | omega | (simp [b01] at hz; exact hz)
          · have hk3 : (k == 3) = false := by simpa using k3
            rw [if_neg k3, hk3] at hC
            have hz := add176 (k, 0, 0, 0) o true w h HX HE H chI_refl (fun q => by simp at q; omega) (fun q => by simp at q; omega) (fun q => by simp at q; omega) (Nat.le_refl _) hw (by omega) (by simpa using hC)
            (repeat' (first | with_reducible assumption | (refine ckd ?_) | (refine And.intro ?_ ?_) | (with_reducible intro _) | (simp [wp_ne 176, wpE, mk_X1_read, mg, mc_X1_read, lget, lset, popN, cats, rcv, entL, isArr, kC_s, kC_n, st1, st2, st3, st4, st5, st6, st7, st8, st9, st10, st11, st12, st13, st14, st15, st16, st17, st18, st19, st20, st21, st22, st23, st24, st25, st26, st27, st28, st29, st30, st31, st32, st33, st34, st35, st36, st37, st38, st39, st40, st41, st42, st43, st44, st45, st46, st47, st48, st49, st50, st51, st52, st53, st54, st55, st56, st57, st58, st59, st60, st61, st62, st63, st64, st65, st66, st67, st68, st69, st70, st71, st72, st73, st74, st75, st76, st77, st78, st79, st80, st81, st82, st83, st84, st85, st86, st87, st88, st89, st90, st91, e1, e2, a1, b4, hw, hd0, k1, k2, k3, hk0, k6, b01, inR]))) <;> (try (first | omega | exact hz))
            all_goals first | omega | (simp [b01] at hz; exact hz)
    · rw [if_pos hw] at hC
      have hz := hC h chI_refl HX HE
      by_cases hcon : wn = true ∨ 0 < o
      · rw [if_pos hcon] at hz
        cases wn
        · have ho : 0 < o := by simpa using hcon
          (repeat' (first | with_reducible assumption | (refine And.intro ?_ ?_) | (with_reducible intro _) | (simp [wp_eq, wpE, mk_X1_read, mg, mc_X1_read, lget, lset, popN, cats, rcv, entL, isArr, kC_s, kC_n, st1, st2, st3, st4, st5, st6, st7, st8, st9, st10, st11, st12, st13, st14, st15, st16, st17, st18, st19, st20, st21, st22, st23, st24, st25, st26, st27, st28, st29, st30, st31, st32, st33, st34, st35, st36, st37, st38, st39, st40, st41, st42, st43, st44, st45, st46, st47, st48, st49, st50, st51, st52, st53, st54, st55, st56, st57, st58, st59, st60, st61, st62, st63, st64, st65, st66, st67, st68, st69, st70, st71, st72, st73, st74, st75, st76, st77, st78, st79, st80, st81, st82, st83, st84, st85, st86, st87, st88, st89, st90, st91, e1, e2, a1, b4, hw, b01, ho]))) <;> (try (first | omega | exact hz))
        · (repeat' (first | with_reducible assumption | (refine And.intro ?_ ?_) | (with_reducible intro _) | (simp [wp_eq, wpE, mk_X1_read, mg, mc_X1_read, lget, lset, popN, cats, rcv, entL, isArr, kC_s, kC_n, st1, st2, st3, st4, st5, st6, st7, st8, st9, st10, st11, st12, st13, st14, st15, st16, st17, st18, st19, st20, st21, st22, st23, st24, st25, st26, st27, st28, st29, st30, st31, st32, st33, st34, st35, st36, st37, st38, st39, st40, st41, st42, st43, st44, st45, st46, st47, st48, st49, st50, st51, st52, st53, st54, st55, st56, st57, st58, st59, st60, st61, st62, st63, st64, st65, st66, st67, st68, st69, st70, st71, st72, st73, st74, st75, st76, st77, st78, st79, st80, st81, st82, st83, st84, st85, st86, st87, st88, st89, st90, st91, e1, e2, a1, b4, hw, b01]))) <;> (try (first | omega | exact hz))
      · rw [if_neg hcon] at hz
        have ho : o = 0 := by
          by_cases q : 0 < o
          · exact absurd (Or.inr q) hcon
          · omega
        have hwn : wn = false := by
          cases wn
          · rfl
          · exact absurd (Or.inl rfl) hcon
        subst ho
        subst hwn
        (repeat' (first | with_reducible assumption | (refine And.intro ?_ ?_) | (with_reducible intro _) | (simp [wp_eq, wpE, mk_X1_read, mg, mc_X1_read, lget, lset, popN, cats, rcv, entL, isArr, kC_s, kC_n, st1, st2, st3, st4, st5, st6, st7, st8, st9, st10, st11, st12, st13, st14, st15, st16, st17, st18, st19, st20, st21, st22, st23, st24, st25, st26, st27, st28, st29, st30, st31, st32, st33, st34, st35, st36, st37, st38, st39, st40, st41, st42, st43, st44, st45, st46, st47, st48, st49, st50, st51, st52, st53, st54, st55, st56, st57, st58, st59, st60, st61, st62, st63, st64, st65, st66, st67, st68, st69, st70, st71, st72, st73, st74, st75, st76, st77, st78, st79, st80, st81, st82, st83, st84, st85, st86, st87, st88, st89, st90, st91, e1, e2, a1, b4, hw, b01]))) <;> (try (first | omega | exact hz))
def rdE (L : List Int) (fst : Nat) : Int × List aK := if ¬ fst < (wds L).length then (-1, [(13, 0, 0, 0)]) else rdP L 60 fst 0 true []
