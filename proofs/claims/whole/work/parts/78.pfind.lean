theorem kd_14 (w : List Int) : kdOf w ≤ 14 := by
  have key : ∀ (P : Prop) [Decidable P] (a b : Nat), a ≤ 14 → b ≤ 14 → (if P then a else b) ≤ 14 := fun P _ a b h1 h2 => by split <;> assumption
  unfold kdOf
  repeat' (refine key _ _ _ (by omega) ?_)
  omega
theorem rdP_k {L : List Int} : ∀ (f w o : Nat) (wn : Bool) (K : List aK), (∀ t ∈ K, 1 ≤ t.1 ∧ t.1 ≤ 14) → ∀ t ∈ (rdP L f w o wn K).2, 1 ≤ t.1 ∧ t.1 ≤ 14 := by
  intro f
  induction f with
  | zero => intro w o wn K h; exact h
  | succ f ih =>
    intro w o wn K h
    have h14 := kd_14 (wd L w)
    have hap : ∀ x : aK, 1 ≤ x.1 → x.1 ≤ 14 → ∀ t ∈ K ++ [x], 1 ≤ t.1 ∧ t.1 ≤ 14 := fun x h1 h2 t ht => by
      rcases List.mem_append.mp ht with q | q
      · exact h t q
      · simp at q; subst q; exact ⟨h1, h2⟩
    rw [rdP]
    generalize kdOf (wd L w) = k at *
    by_cases hw : w < (wds L).length
    · rw [if_neg (fun q => q hw)]
      by_cases k1 : k = 1 ∨ k = 2
      · rw [if_pos k1]; exact ih _ _ _ _ (hap _ (by simp; omega) (by simp; omega))
      · rw [if_neg k1]
        by_cases k6 : 6 ≤ k
        · rw [if_pos k6]
          by_cases k12 : k < 12
          · rw [if_pos k12]
            generalize (if w + 1 < (wds L).length then opd k (wd L (w + 1)) else none) = p
            cases p with
            | none => exact h
            | some p => exact ih _ _ _ _ (hap _ (by simp; omega) (by simp; omega))
          · rw [if_neg k12]; exact ih _ _ _ _ (hap _ (by simp; omega) (by simp; omega))
        · rw [if_neg k6]
          by_cases kb : wn = true ∨ k = 0 ∨ (k = 3 ∧ o = 0)
          · rw [if_pos kb]; exact h
          · rw [if_neg kb]
            have : ¬ k = 0 := fun q => kb (Or.inr (Or.inl q))
            exact ih _ _ _ _ (hap _ (by simp; omega) (by simp; omega))
    · rw [if_pos hw]; exact h
theorem rdE_k {L : List Int} {fst : Nat} : ∀ t ∈ (rdE L fst).2, 1 ≤ t.1 ∧ t.1 ≤ 14 := by
  unfold rdE
  by_cases hf : fst < (wds L).length
  · rw [if_neg (fun q => q hf)]; exact rdP_k _ _ _ _ _ (fun t ht => by simp at ht)
  · rw [if_pos hf]; intro t ht; simp at ht; subst ht; exact ⟨by simp, by simp⟩
def fdX (L : List Int) : Nat := if isPth L = true then 1 else 0
def fdP (L : List Int) : List Int := if isPth L = true then wd L 0 else [46]
def fdK (L : List Int) : Int × List aK := rdE L (fdX L)
def fdZ (T : aT) (here : Nat) (L : List Int) : Int := (wkR T false here (fdP L)).1
def fdU (T : aT) (here : Nat) (L : List Int) (pr : Int) : aU := vis L T here (fdK L).2 pr 48 (fdZ T here L).toNat (tpN (fdP L)) (fdP L) ((false, [], 0, false), 0)
def fiR (T : aT) (here : Nat) (L : List Int) (pr : Int) : Int := if ¬ (fdK L).1 = -1 then -12 else if ¬ lkN T here L (fdK L).2 = 0 then lkN T here L (fdK L).2 else if fdZ T here L < 0 then fdZ T here L else if (fdU T here L pr).1.2.2.2 = true then -8 else ((fdU T here L pr).1.2.2.1 : Int)
abbrev fdG (T : aT) (here : Nat) (L : List Int) : Prop := (fdK L).1 = -1 ∧ lkN T here L (fdK L).2 = 0 ∧ 0 ≤ fdZ T here L
def fiO (T : aT) (here : Nat) (L : List Int) (pr : Int) : List Int := if fdG T here L then (fdU T here L pr).1.2.1 else []
def fiC (T : aT) (here : Nat) (L : List Int) (pr : Int) : Int := if fdG T here L then (fdU T here L pr).2 else 0
theorem c_begin {G : Nat → Nat} {d f : Nat} {h : mH} {C : mQ} {X : mX} {pr : Int} (hf : hty h f = some (2, 14)) (hC : C none (hsetI (hsetI (hsetI (hsetI (hsetI h f 6 pr) f 7 0) f 8 0) f 9 0) f 10 0)) : callG (wp G) d 12 0 0 2 [.inr (.inl (some f)), .inl pr] h C X := by
  have hz := hC
  refine ⟨C, fun _ _ => False, ?_, fun _ _ q => q, fun _ _ q => q.elim⟩
  (repeat' (first | with_reducible assumption | (refine And.intro ?_ ?_) | (with_reducible intro _) | (simp [wp_eq, wpE, mk_X2_begin, mg, mc_X2_begin, lget, lset, popN, cats, rcv, entL, isArr, kC_s, kC_n, st1, st2, st3, st4, st5, st6, st7, st8, st9, st10, st11, st12, st13, st14, st15, st16, st17, st18, st19, st20, st21, st22, st23, st24, st25, st26, st27, st28, st29, st30, st31, st32, st33, st34, st35, st36, st37, st38, st39, st40, st41, st42, st43, st44, st45, st46, st47, st48, st49, st50, st51, st52, st53, st54, st55, st56, st57, st58, st59, st60, st61, st62, st63, st64, st65, st66, st67, st68, st69, st70, st71, st72, st73, st74, st75, st76, st77, st78, st79, st80, st81, st82, st83, st84, st85, st86, st87, st88, st89, st90, st91, hf, hty_I, hvi_I, hvr_I, hvl_I, hsz_I, hty_R, hvi_R, hvr_R, hvl_R, hsz_R, hty_L, hvi_L, hvr_L, hvl_L, hsz_L, hty_P, hvi_P, hvr_P, hvl_P, hsz_P, hty_C, hvi_C, hvr_C, hvl_C, hsz_C]))) <;> (try (first | omega | exact hz))
def XT (x l : Nat) (h : mH) : Prop := hty h x = some (1, 8) ∧ hvr h x 0 = some l ∧ hvr h x 1 = some (x + 1) ∧ hvr h x 2 = some (x + 2) ∧ hvr h x 3 = some (x + 3) ∧ hvr h x 4 = some (x + 4) ∧ hty h (x + 1) = some (20, 50) ∧ hty h (x + 2) = some (20, 50) ∧ hty h (x + 3) = some (20, 50) ∧ hty h (x + 4) = some (21, 50)
theorem c_readT {G : Nat → Nat} {d x l fst : Nat} {h : mH} {C : mQ} {X : mX} {L : List Int} (hd : 10 ≤ d) (hxl : l + 4 ≤ x) (HX : XT x l h) (H : LI l h L) (hf : fst ≤ (wds L).length)
    (hC : ∀ h', chI (S5 x) h h' → XC x l h' (rdE L fst).2.length → EP x h' (rdE L fst).2 → C (some (.inl (rdE L fst).1)) h') :
    callG (wp G) d 4 0 0 6 [.inr (.inl (some x)), .inl (fst : Int)] h C X := by
  obtain ⟨e1, e2, e3, e4, e5, e6, e7, e8, e9, e10⟩ := HX
  have a1 := H.1.1
  have hnS : ∀ j, j < 4 → ¬ S5 x (l + j) := fun j hj q => by unfold S5 at q; omega
  have q1 : chI (S5 x) h (hsetI (hsetI (hsetI h x 5 0) x 6 0) x 7 0) := chI_trans (chI_trans (chI_set (Or.inl rfl)) (chI_set (Or.inl rfl))) (chI_set (Or.inl rfl))
  have H1 := LI_cI q1 (hnS 0 (by omega)) (hnS 1 (by omega)) (hnS 2 (by omega)) (hnS 3 (by omega)) H
  have HX1 : XC x l (hsetI (hsetI (hsetI h x 5 0) x 6 0) x 7 0) ([] : List aK).length := ⟨e1, e2, e3, e4, e5, e6, e7, e8, e9, e10, by simp [hty_I, hvi_I, hvr_I, hvl_I, hsz_I, hty_R, hvi_R, hvr_R, hvl_R, hsz_R, hty_L, hvi_L, hvr_L, hvl_L, hsz_L, hty_P, hvi_P, hvr_P, hvl_P, hsz_P, hty_C, hvi_C, hvr_C, hvl_C, hsz_C]⟩
  have HE1 : EP x (hsetI (hsetI (hsetI h x 5 0) x 6 0) x 7 0) [] := ⟨by simp, by simp [hty_I, hvi_I, hvr_I, hvl_I, hsz_I, hty_R, hvi_R, hvr_R, hvl_R, hsz_R, hty_L, hvi_L, hvr_L, hvl_L, hsz_L, hty_P, hvi_P, hvr_P, hvl_P, hsz_P, hty_C, hvi_C, hvr_C, hvl_C, hsz_C], by simp [hty_I, hvi_I, hvr_I, hvl_I, hsz_I, hty_R, hvi_R, hvr_R, hvl_R, hsz_R, hty_L, hvi_L, hvr_L, hvl_L, hsz_L, hty_P, hvi_P, hvr_P, hvl_P, hsz_P, hty_C, hvi_C, hvr_C, hvl_C, hsz_C, b01], by simp [hty_I, hvi_I, hvr_I, hvl_I, hsz_I, hty_R, hvi_R, hvr_R, hvl_R, hsz_R, hty_L, hvi_L, hvr_L, hvl_L, hsz_L, hty_P, hvi_P, hvr_P, hvl_P, hsz_P, hty_C, hvi_C, hvr_C, hvl_C, hsz_C, b01], fun i t hi => by simp at hi⟩
  have h50 := wds_len H.2.1.1
  unfold rdE at hC
  refine cg 9 (by omega) (fun d hd => ?_)
  have hd0 : (0 < d) = True := eq_true (by omega)
  have u1 : hty (hsetI (hsetI (hsetI h x 5 0) x 6 0) x 7 0) x = some (1, 8) := e1
  have u2 : hvr (hsetI (hsetI (hsetI h x 5 0) x 6 0) x 7 0) x 0 = some l := e2
  have u3 : hty (hsetI (hsetI (hsetI h x 5 0) x 6 0) x 7 0) l = some (4, 5) := a1
  have hgo : ∀ h1, h1 = hsetI (hsetI (hsetI h x 5 0) x 6 0) x 7 0 → wp G d 4 15 [some (.inr (.inl (some x))), some (.inl (fst : Int)), none, none, none, none] [] h1 0 0 C (fun _ _ => False) := by
    intro h1 he
    rw [← he] at u1 u2 u3 HX1 HE1 H1 q1
    have b4 : hvi h1 l 4 = ((wds L).length : Int) := H1.2.1.2.2.2.1
    by_cases hw : fst < (wds L).length
    · rw [if_neg (fun q => q hw)] at hC
      have hz := fun x5 => read_loop (G := G) (d := d) (C := C) (X := fun _ _ => False) (x1 := some (.inl (fst : Int))) (by omega) hxl 60 fst 0 true [] h1 x5 (by omega) (by omega) (by simp) HX1 HE1 H1 (fun h' z1 z2 z3 => hC h' (chI_trans q1 z1) z2 z3) hf
      have hwi : ¬ ((wds L).length : Int) ≤ (fst : Int) := by omega
      simp [wp_eq, wpE, mk_X1_read, mg, mc_X1_read, lget, lset, popN, cats, rcv, entL, isArr, kC_s, kC_n, st1, st2, st3, st4, st5, st6, st7, st8, st9, st10, st11, st12, st13, st14, st15, st16, st17, st18, st19, st20, st21, st22, st23, st24, st25, st26, st27, st28, st29, st30, st31, st32, st33, st34, st35, st36, st37, st38, st39, st40, st41, st42, st43, st44, st45, st46, st47, st48, st49, st50, st51, st52, st53, st54, st55, st56, st57, st58, st59, st60, st61, st62, st63, st64, st65, st66, st67, st68, st69, st70, st71, st72, st73, st74, st75, st76, st77, st78, st79, st80, st81, st82, st83, st84, st85, st86, st87, st88, st89, st90, st91, u1, u2, u3, b4, hw, show ¬ (wds L).length ≤ fst by omega]
      exact hz _
    · rw [if_pos hw] at hC
      have cap : ∀ {C : mQ} {X : mX}, (∀ h', chI (fun a => a = x ∨ a = x + 1) h1 h' → XC x l h' ([] ++ [((13, 0, 0, 0) : aK)]).length → EP x h' ([] ++ [((13, 0, 0, 0) : aK)]) → C none h') → callG (wp G) d 5 0 0 2 [.inr (.inl (some x)), .inl 13] h1 C X := fun {C X} q => c_addPart (t := (13, 0, 0, 0)) HX1 HE1 (by simp) (fun z => by simp at z) (fun z => by simp at z) (fun z => by simp at z) q
      simp [wp_eq, wpE, mk_X1_read, mg, mc_X1_read, lget, lset, popN, cats, rcv, entL, isArr, kC_s, kC_n, st1, st2, st3, st4, st5, st6, st7, st8, st9, st10, st11, st12, st13, st14, st15, st16, st17, st18, st19, st20, st21, st22, st23, st24, st25, st26, st27, st28, st29, st30, st31, st32, st33, st34, st35, st36, st37, st38, st39, st40, st41, st42, st43, st44, st45, st46, st47, st48, st49, st50, st51, st52, st53, st54, st55, st56, st57, st58, st59, st60, st61, st62, st63, st64, st65, st66, st67, st68, st69, st70, st71, st72, st73, st74, st75, st76, st77, st78, st79, st80, st81, st82, st83, st84, st85, st86, st87, st88, st89, st90, st91, u1, u2, u3, b4, hw, hd0, show (wds L).length ≤ fst by omega]
      refine cap (fun zzh zz1 zz2 zz3 => ?_)
      have hz := hC zzh (chI_trans q1 (chI_mono (fun a z => by rcases z with z | z; exact Or.inl z; exact Or.inr (Or.inl z)) zz1)) zz2 zz3
      (repeat' (first | with_reducible assumption | (refine And.intro ?_ ?_) | (with_reducible intro _) | (simp [wp_eq, wpE, mk_X1_read, mg, mc_X1_read, lget, lset, popN, cats, rcv, entL, isArr, kC_s, kC_n, st1, st2, st3, st4, st5, st6, st7, st8, st9, st10, st11, st12, st13, st14, st15, st16, st17, st18, st19, st20, st21, st22, st23, st24, st25, st26, st27, st28, st29, st30, st31, st32, st33, st34, st35, st36, st37, st38, st39, st40, st41, st42, st43, st44, st45, st46, st47, st48, st49, st50, st51, st52, st53, st54, st55, st56, st57, st58, st59, st60, st61, st62, st63, st64, st65, st66, st67, st68, st69, st70, st71, st72, st73, st74, st75, st76, st77, st78, st79, st80, st81, st82, st83, st84, st85, st86, st87, st88, st89, st90, st91]))) <;> (try (first | omega | exact hz))
  have hz := hgo _ rfl
  simp [wp_ne 15, wpE, mk_X1_read, mg, mc_X1_read, lget, lset, popN, cats, rcv, entL, isArr, kC_s, kC_n, st1, st2, st3, st4, st5, st6, st7, st8, st9, st10, st11, st12, st13, st14, st15, st16, st17, st18, st19, st20, st21, st22, st23, st24, st25, st26, st27, st28, st29, st30, st31, st32, st33, st34, st35, st36, st37, st38, st39, st40, st41, st42, st43, st44, st45, st46, st47, st48, st49, st50, st51, st52, st53, st54, st55, st56, st57, st58, st59, st60, st61, st62, st63, st64, st65, st66, st67, st68, st69, st70, st71, st72, st73, st74, st75, st76, st77, st78, st79, st80, st81, st82, st83, st84, st85, st86, st87, st88, st89, st90, st91, e1, hty_I]
  exact hz

theorem frn_10 : frn (some (10, 7)) := ⟨by simp, by simp, by simp, by simp, fun n => by simp, fun n _ => by simp⟩
theorem CS_bad {c : Nat} {h : mH} {L : List Int} {T : aT} {here : Nat} {O : List Int} {cp bad z : Int} (H : CS c h L T here O cp bad) : CS c (hsetI h c 6 z) L T here O cp z := by
  obtain ⟨h1, h2, h3, h4, h5, h6, h7, h8, h9, h10⟩ := H
  have q : chI (fun x => x = c) h (hsetI h c 6 z) := chI_set rfl
  have hf : ∀ x, (fun x => x = c) x → frn (hty h x) := fun x hx => by
    have hx : x = c := hx
    have h0 : hty h c = some (10, 7) := h1.1 (0, 10, 7) (by decide)
    rw [hx, h0]; exact frn_10
  exact ⟨CF_chI q h1, LI_cI q (by omega) (by omega) (by omega) (by omega) h2, TR_ex (ex_I q) hf h3, h4, TI_ex (ex_I q) hf h3 h5, PG_set (by omega) (by omega) h6, by rw [hvi_I, if_neg (by omega)]; exact h7, by rw [hvi_I, if_pos (by omega)], fun a ha => h9 a ha, h10⟩
theorem dt_CF {c g : Nat} {h h' : mH} (H : CF c h) (hg : hty h g = some (51, 1)) (q : chI (fun x => SF c x ∨ x = c) h h') : dtK h h' g := by
  refine ⟨q.2.1 g, fun j => q.2.2.2.2 g j (fun hx => ?_)⟩
  rcases hx with hx | hx
  · have key : ∀ i, i < 27 → 12 ≤ i → cTy.any (fun p => decide (p.1 = i ∧ ¬ p.2 = (51, 1))) = true := by decide
    unfold SF at hx
    obtain ⟨p, hp, hq⟩ := List.any_eq_true.mp (key (g - c) (by omega) (by omega))
    obtain ⟨e, k1⟩ := of_decide_eq_true hq
    have h1 := H.1 p hp
    rw [show c + p.1 = g by omega, hg] at h1
    injection h1 with h1
    exact k1 h1.symm
  · have h1 := H.1 (0, 10, 7) (by decide)
    simp only [Nat.add_zero] at h1
    rw [hx, h1] at hg
    cases hg
theorem dt_tr {h1 h2 h3 : mH} {g : Nat} (p : dtK h1 h2 g) (q : dtK h2 h3 g) : dtK h1 h3 g := ⟨q.1.trans p.1, fun j => (q.2 j).trans (p.2 j)⟩
theorem CF_XT {c : Nat} {h : mH} (H : CF c h) : XT (c + 14) (c + 1) h := ⟨H.1 (14, 1, 8) (by decide), H.2 (14, 0, 1) (by decide), H.2 (14, 1, 15) (by decide), H.2 (14, 2, 16) (by decide), H.2 (14, 3, 17) (by decide), H.2 (14, 4, 18) (by decide), H.1 (15, 20, 50) (by decide), H.1 (16, 20, 50) (by decide), H.1 (17, 20, 50) (by decide), H.1 (18, 21, 50) (by decide)⟩
theorem isPth_0 {L : List Int} (h : isPth L = true) : 0 < (wds L).length := by
  unfold isPth at h
  simp only [Bool.and_eq_true, decide_eq_true_eq] at h
  exact h.1.1.1
theorem PG_nil {g : Nat} {h : mH} {O : List Int} (H : PG g h O) : PG g (hsetI h g 1 0) [] := by
  obtain ⟨p1, p2, p3, p4, p5, p6⟩ := H
  exact ⟨p1, p2, by rw [hvi_I, if_pos ⟨rfl, rfl⟩]; rfl, by simp, fun i hi => by simp at hi, fun x hx => by simp at hx⟩
theorem p_find {G : Nat → Nat} {d c here : Nat} {h : mH} {C : mQ} {X : mX} {L : List Int} {T : aT} {O : List Int} {cp bad pr : Int} (hd : 110 ≤ d) (H : CS c h L T here O cp bad) (hg : hty h (G 0) = some (51, 1)) (hg2 : hvi h (G 0) 0 = 46) (hX : ¬ (0 ≤ pr ∧ pr ≤ 999999) → ∀ y, hsz h ≤ y → X 1 (hgrow h y)) (hC : (0 ≤ pr ∧ pr ≤ 999999) → ∀ h', CS c h' L T here (fiO T here L pr) (fiC T here L pr) (fdK L).1 → dtK h h' (G 0) → C (some (.inl (fiR T here L pr))) h') :
    callG (wp G) d 80 1 6 5 [.inr (.inl (some c)), .inl pr] h C X := by
  have x1 : hty h c = some (10, 7) := H.1.1 (0, 10, 7) (by decide)
  have x2 : hvr h c 3 = some (c + 12) := H.1.2 (0, 3, 12) (by decide)
  have x3 : hty h (c + 12) = some (6, 3) := H.1.1 (12, 6, 3) (by decide)
  have x4 : hvr h c 5 = some (c + 19) := H.1.2 (0, 5, 19) (by decide)
  have x5 : hty h (c + 19) = some (2, 14) := H.1.1 (19, 2, 14) (by decide)
  have x6 : hvr h c 0 = some (c + 1) := H.1.2 (0, 0, 1) (by decide)
  have x7 : hty h (c + 1) = some (4, 5) := H.1.1 (1, 4, 5) (by decide)
  have x8 : hvr h c 4 = some (c + 14) := H.1.2 (0, 4, 14) (by decide)
  have x9 : hty h (c + 14) = some (1, 8) := H.1.1 (14, 1, 8) (by decide)
  have hw := H.2.2.2.2.2.2.2.2.2
  have hL1 := H.2.1.2.1.1
  refine ⟨C, X, ?_, fun _ _ q => q, fun _ _ q => q⟩
  obtain ⟨d, rfl⟩ : ∃ d', d = d' + 1 := ⟨d - 1, by omega⟩
  rw [Nat.add_sub_cancel]
  have hd0 : (0 < d) = True := eq_true (by omega)
  by_cases hb : 0 ≤ pr ∧ pr ≤ 999999
  · have hC := hC hb
    -- the heap behind begin
    have qB : chI (fun x => SF c x ∨ x = c) h (hsetI (hsetI (hsetI (hsetI (hsetI (hsetI h (c + 12) 1 0) (c + 19) 6 pr) (c + 19) 7 0) (c + 19) 8 0) (c + 19) 9 0) (c + 19) 10 0) := chI_trans (chI_trans (chI_trans (chI_trans (chI_trans (chI_set (by unfold SF; omega)) (chI_set (by unfold SF; omega))) (chI_set (by unfold SF; omega))) (chI_set (by unfold SF; omega))) (chI_set (by unfold SF; omega))) (chI_set (by unfold SF; omega))
    have qB2 : chI (SF c) h (hsetI (hsetI (hsetI (hsetI (hsetI (hsetI h (c + 12) 1 0) (c + 19) 6 pr) (c + 19) 7 0) (c + 19) 8 0) (c + 19) 9 0) (c + 19) 10 0) := chI_trans (chI_trans (chI_trans (chI_trans (chI_trans (chI_set (by unfold SF; omega)) (chI_set (by unfold SF; omega))) (chI_set (by unfold SF; omega))) (chI_set (by unfold SF; omega))) (chI_set (by unfold SF; omega))) (chI_set (by unfold SF; omega))
    have CB : CS c (hsetI (hsetI (hsetI (hsetI (hsetI (hsetI h (c + 12) 1 0) (c + 19) 6 pr) (c + 19) 7 0) (c + 19) 8 0) (c + 19) 9 0) (c + 19) 10 0) L T here [] 0 bad := CS_chI H qB2 (PG_set (by omega) (by omega) (PG_set (by omega) (by omega) (PG_set (by omega) (by omega) (PG_set (by omega) (by omega) (PG_set (by omega) (by omega) (PG_nil H.2.2.2.2.2.1)))))) (by simp [hty_I, hvi_I, hvr_I, hvl_I, hsz_I, hty_R, hvi_R, hvr_R, hvl_R, hsz_R, hty_L, hvi_L, hvr_L, hvl_L, hsz_L, hty_P, hvi_P, hvr_P, hvl_P, hsz_P, hty_C, hvi_C, hvr_C, hvl_C, hsz_C])
    have fB : hvi (hsetI (hsetI (hsetI (hsetI (hsetI (hsetI h (c + 12) 1 0) (c + 19) 6 pr) (c + 19) 7 0) (c + 19) 8 0) (c + 19) 9 0) (c + 19) 10 0) (c + 19) 6 = pr ∧ hvi (hsetI (hsetI (hsetI (hsetI (hsetI (hsetI h (c + 12) 1 0) (c + 19) 6 pr) (c + 19) 7 0) (c + 19) 8 0) (c + 19) 9 0) (c + 19) 10 0) (c + 19) 7 = 0 ∧ hvi (hsetI (hsetI (hsetI (hsetI (hsetI (hsetI h (c + 12) 1 0) (c + 19) 6 pr) (c + 19) 7 0) (c + 19) 8 0) (c + 19) 9 0) (c + 19) 10 0) (c + 19) 9 = 0 ∧ hvi (hsetI (hsetI (hsetI (hsetI (hsetI (hsetI h (c + 12) 1 0) (c + 19) 6 pr) (c + 19) 7 0) (c + 19) 8 0) (c + 19) 9 0) (c + 19) 10 0) (c + 19) 10 = 0 := ⟨by simp [hty_I, hvi_I, hvr_I, hvl_I, hsz_I, hty_R, hvi_R, hvr_R, hvl_R, hsz_R, hty_L, hvi_L, hvr_L, hvl_L, hsz_L, hty_P, hvi_P, hvr_P, hvl_P, hsz_P, hty_C, hvi_C, hvr_C, hvl_C, hsz_C], by simp [hty_I, hvi_I, hvr_I, hvl_I, hsz_I, hty_R, hvi_R, hvr_R, hvl_R, hsz_R, hty_L, hvi_L, hvr_L, hvl_L, hsz_L, hty_P, hvi_P, hvr_P, hvl_P, hsz_P, hty_C, hvi_C, hvr_C, hvl_C, hsz_C], by simp [hty_I, hvi_I, hvr_I, hvl_I, hsz_I, hty_R, hvi_R, hvr_R, hvl_R, hsz_R, hty_L, hvi_L, hvr_L, hvl_L, hsz_L, hty_P, hvi_P, hvr_P, hvl_P, hsz_P, hty_C, hvi_C, hvr_C, hvl_C, hsz_C], by simp [hty_I, hvi_I, hvr_I, hvl_I, hsz_I, hty_R, hvi_R, hvr_R, hvl_R, hsz_R, hty_L, hvi_L, hvr_L, hvl_L, hsz_L, hty_P, hvi_P, hvr_P, hvl_P, hsz_P, hty_C, hvi_C, hvr_C, hvl_C, hsz_C]⟩
    have DB := dt_CF H.1 hg qB
    -- the end of the walk
    have fend : ∀ (h3 : mH) (n N a fr k : Nat), CS c h3 L T here [] 0 (-1) → EP (c + 14) h3 (fdK L).2 → (∀ j t, (fdK L).2[j]? = some t → t.1 = 11 → hvi h3 (c + 17) j = dyW T here L t.2.1) → (hvi h3 (c + 19) 6 = pr ∧ hvi h3 (c + 19) 7 = 0 ∧ hvi h3 (c + 19) 9 = 0 ∧ hvi h3 (c + 19) 10 = 0) → dtK h h3 (G 0) → fdG T here L → fdZ T here L = (n : Int) → n < 48 → (k = 21 ∨ k = 51) → hty h3 a = some (k, N) → ¬ a = c + 25 → fr + (fdP L).length ≤ N → N ≤ 60000 → ro h3 a fr (fdP L) → bd (fdP L) → 1 ≤ (fdP L).length → (fdP L).length ≤ 100 → ∀ (z : Int) (C' : mQ) (X' : mX), z = ((fr + (fdP L).length : Nat) : Int) → (∀ h', C (some (.inl (fiR T here L pr))) h' → C' (some (.inl (fiR T here L pr))) h') → callG (wp G) d 13 0 0 8 [.inr (.inl (some (c + 19))), .inl (n : Int), .inr (.inl (some a)), .inl (fr : Int), .inl z] h3 C' X' := by
      intro h3 n N a fr k C3 E3 D3 f3 dt3 hG hZ hn hk ha hac hN hN2 hr bP hP1 hP2 z C' X' hz0 hC'
      have h1 : (fdK L).1 = -1 := hG.1
      obtain ⟨o1, o2⟩ := rdE_ok (wds_len hL1) h1
      have EVh : EV L T here (fdK L).2 pr := ⟨hw, rdE_k, o1, o2, hb⟩
      refine f_search (u := ((false, [], 0, false), 0)) (bad := -1) hz0 EVh (by omega) hn ⟨C3, E3, D3, ⟨f3.1, by simpa using f3.2.1, by simpa [b01] using f3.2.2.1, by simpa [b01] using f3.2.2.2⟩, by simp⟩ (by simp) hk ha hac hN hN2 hr bP hP1 hP2 (tpN_14 hw hP1 (by have := hG.2.2; exact this)) (fun h' q1 q2 => ?_)
      have eU : fdU T here L pr = vis L T here (fdK L).2 pr 48 n (tpN (fdP L)) (fdP L) ((false, [], 0, false), 0) := by unfold fdU; rw [hZ]; rfl
      rw [← eU] at q2 ⊢
      have hfin := hC h' (by
        unfold fiO fiC
        rw [if_pos hG, if_pos hG, h1]
        exact q2.1) (dt_tr dt3 (dt_CF C3.1 (by rw [dt3.1]; exact hg) (chI_mono (fun x hx => Or.inl (SA_SF hx)) q1)))
      have eR : fiR T here L pr = (if (fdU T here L pr).1.2.2.2 = true then -8 else ((fdU T here L pr).1.2.2.1 : Int)) := by
        unfold fiR
        rw [if_neg (by rw [h1]; simp), if_neg (by rw [hG.2.1]; simp), if_neg (by have := hG.2.2; omega)]
      rw [← eR]
      exact hC' h' hfin
    -- behind the reading
    have fread : ∀ (hR : mH) (fst : Nat), fst = fdX L → CS c hR L T here [] 0 bad → EP (c + 14) hR (fdK L).2 → (hvi hR (c + 19) 6 = pr ∧ hvi hR (c + 19) 7 = 0 ∧ hvi hR (c + 19) 9 = 0 ∧ hvi hR (c + 19) 10 = 0) → dtK h hR (G 0) → wp G d 80 61 [some (.inr (.inl (some c))), some (.inl pr), some (.inl (fst : Int)), none, none] [] (hsetI hR c 6 (fdK L).1) 1 6 C X := by
      intro hR fst hf CR ER fR dR
      have C4 := CS_bad (z := (fdK L).1) CR
      have E4 : EP (c + 14) (hsetI hR c 6 (fdK L).1) (fdK L).2 := EP_way ER (fun a j _ _ => by rw [hvi_I, if_neg (by omega)])
      have f4 : ∀ j, hvi (hsetI hR c 6 (fdK L).1) (c + 19) j = hvi hR (c + 19) j := fun j => by rw [hvi_I, if_neg (by omega)]
      have d4 : dtK h (hsetI hR c 6 (fdK L).1) (G 0) := dt_tr dR (dt_CF CR.1 (by rw [dR.1]; exact hg) (chI_set (Or.inr rfl)))
      have v6 : hvi (hsetI hR c 6 (fdK L).1) c 6 = (fdK L).1 := by rw [hvi_I, if_pos ⟨rfl, rfl⟩]
      generalize hsetI hR c 6 (fdK L).1 = h4 at *
      have y1 : hty h4 c = some (10, 7) := C4.1.1 (0, 10, 7) (by decide)
      by_cases h1 : (fdK L).1 = -1
      · rw [h1] at v6 C4
        simp [wp_eq, wpE, mk_X10_find, mg, mc_X10_find, lget, lset, popN, cats, rcv, entL, isArr, kC_s, kC_n, st1, st2, st3, st4, st5, st6, st7, st8, st9, st10, st11, st12, st13, st14, st15, st16, st17, st18, st19, st20, st21, st22, st23, st24, st25, st26, st27, st28, st29, st30, st31, st32, st33, st34, st35, st36, st37, st38, st39, st40, st41, st42, st43, st44, st45, st46, st47, st48, st49, st50, st51, st52, st53, st54, st55, st56, st57, st58, st59, st60, st61, st62, st63, st64, st65, st66, st67, st68, st69, st70, st71, st72, st73, st74, st75, st76, st77, st78, st79, st80, st81, st82, st83, st84, st85, st86, st87, st88, st89, st90, st91, y1, v6, hd0]
        refine c_lookUpNewer (g := G 0) (by omega) (by rw [d4.1]; exact hg) C4 E4 (fun h5 C5 E5 D5 n5 t5 => ?_)
        have d5 := dt_tr d4 t5
        have f5 : hvi h5 (c + 19) 6 = pr ∧ hvi h5 (c + 19) 7 = 0 ∧ hvi h5 (c + 19) 9 = 0 ∧ hvi h5 (c + 19) 10 = 0 := ⟨by rw [n5, f4]; exact fR.1, by rw [n5, f4]; exact fR.2.1, by rw [n5, f4]; exact fR.2.2.1, by rw [n5, f4]; exact fR.2.2.2⟩
        by_cases hl : lkN T here L (fdK L).2 = 0
        · have w1 : hty h5 c = some (10, 7) := C5.1.1 (0, 10, 7) (by decide)
          have w2 : hvr h5 c 2 = some (c + 10) := C5.1.2 (0, 2, 10) (by decide)
          have w3 := C5.2.2.2.1.1
          have g5 : hty h5 (G 0) = some (51, 1) := by rw [d5.1]; exact hg
          have g52 : hvi h5 (G 0) 0 = 46 := by rw [d5.2]; exact hg2
          -- what is behind the walk
          have fwalk : ∀ (h6 : mH) (pc : Nat), ch (yS (c + 10)) h5 h6 → CS c h6 L T here [] 0 (-1) → EP (c + 14) h6 (fdK L).2 ∧ (∀ j t, (fdK L).2[j]? = some t → t.1 = 11 → hvi h6 (c + 17) j = dyW T here L t.2.1) ∧ (hvi h6 (c + 19) 6 = pr ∧ hvi h6 (c + 19) 7 = 0 ∧ hvi h6 (c + 19) 9 = 0 ∧ hvi h6 (c + 19) 10 = 0) ∧ dtK h h6 (G 0) := by
            intro h6 pc q6 C6
            have nn : ∀ a j, ¬ a = c + 10 → ¬ a = c + 11 → hvi h6 a j = hvi h5 a j := fun a j na nb => (q6.2.2.2 a (fun q => by unfold yS at q; omega) j).2
            have hW := C5.2.2.2.1
            have gg : ¬ G 0 = c + 10 ∧ ¬ G 0 = c + 11 := by
              refine ⟨fun q => ?_, fun q => ?_⟩
              · rw [q, hW.1] at g5; cases g5
              · have h11 : hty h5 (c + 11) = some (21, 420) := hW.2.2.2
                rw [q, h11] at g5; cases g5
            exact ⟨EP_way E5 (fun a j _ _ => nn a j (by omega) (by omega)), fun j t hj ht => by rw [nn _ _ (by omega) (by omega)]; exact D5 hl j t hj ht, ⟨by rw [nn _ _ (by omega) (by omega)]; exact f5.1, by rw [nn _ _ (by omega) (by omega)]; exact f5.2.1, by rw [nn _ _ (by omega) (by omega)]; exact f5.2.2.1, by rw [nn _ _ (by omega) (by omega)]; exact f5.2.2.2⟩, dt_tr d5 ⟨q6.2.1 _, fun j => nn _ _ gg.1 gg.2⟩⟩
          have hneg : ∀ h6, CS c h6 L T here [] 0 (-1) → dtK h h6 (G 0) → fdZ T here L < 0 → C (some (.inl (fdZ T here L))) h6 := by
            intro h6 C6 d6 hz
            have hng : ¬ fdG T here L := fun q => by have := q.2.2; omega
            have eR : fiR T here L pr = fdZ T here L := by unfold fiR; rw [if_neg (by rw [h1]; simp), if_neg (by rw [hl]; simp), if_pos hz]
            have := hC h6 (by unfold fiO fiC; rw [if_neg hng, if_neg hng, h1]; exact C6) d6
            rw [eR] at this
            exact this
          rw [hl]
          cases hp : isPth L with
          | false =>
            have hf0 : fst = 0 := by rw [hf]; unfold fdX; rw [hp]; rfl
            have hP : fdP L = [46] := by unfold fdP; rw [hp]; rfl
            have hZ : fdZ T here L = (wkR T false here [46]).1 := by unfold fdZ; rw [hP]
            have r5 : ro h5 (G 0) 0 [46] := fun j hj => by simp at hj; subst hj; simpa [lf] using g52
            have b46 : bd [46] := fun x hx => by simp at hx; omega
            have gy : ¬ G 0 = c + 10 + 1 := fun q => by have h11 : hty h5 (c + 11) = some (21, 420) := C5.2.2.2.1.2.2.2; rw [q] at g5; rw [show c + 10 + 1 = c + 11 by omega, h11] at g5; cases g5
            subst hf0
            simp [wp_eq, wpE, mk_X10_find, mg, mc_X10_find, lget, lset, popN, cats, rcv, entL, isArr, kC_s, kC_n, st1, st2, st3, st4, st5, st6, st7, st8, st9, st10, st11, st12, st13, st14, st15, st16, st17, st18, st19, st20, st21, st22, st23, st24, st25, st26, st27, st28, st29, st30, st31, st32, st33, st34, st35, st36, st37, st38, st39, st40, st41, st42, st43, st44, st45, st46, st47, st48, st49, st50, st51, st52, st53, st54, st55, st56, st57, st58, st59, st60, st61, st62, st63, st64, st65, st66, st67, st68, st69, st70, st71, st72, st73, st74, st75, st76, st77, st78, st79, st80, st81, st82, st83, st84, st85, st86, st87, st88, st89, st90, st91, w1, w2, w3, g5, hd0]
            refine c_alongZ (fol := false) (o := 0) (u := [46]) rfl (by omega) (Or.inr rfl) C5.2.2.1 hw.2.1.1 (wf_W hw) C5.2.2.2.1 g5 gy (by simp) r5 (by simp) b46 (by simp) (fun h6 q6 W6 p6 => ?_)
            have C6 := CS_way C5 q6 W6
            obtain ⟨E6, D6, f6, d6⟩ := fwalk h6 0 q6 C6
            rw [← hZ]
            have z1 : hty h6 c = some (10, 7) := C6.1.1 (0, 10, 7) (by decide)
            have z2 : hvr h6 c 5 = some (c + 19) := C6.1.2 (0, 5, 19) (by decide)
            have z3 : hty h6 (c + 19) = some (2, 14) := C6.1.1 (19, 2, 14) (by decide)
            have g6 : hty h6 (G 0) = some (51, 1) := by rw [d6.1]; exact hg
            by_cases hz0 : fdZ T here L < 0
            · have hz := hneg h6 C6 d6 hz0
              generalize fdZ T here L = zz9 at *
              (repeat' (first | with_reducible assumption | (refine And.intro ?_ ?_) | (with_reducible intro _) | (simp [wp_eq, wpE, mk_X10_find, mg, mc_X10_find, lget, lset, popN, cats, rcv, entL, isArr, kC_s, kC_n, st1, st2, st3, st4, st5, st6, st7, st8, st9, st10, st11, st12, st13, st14, st15, st16, st17, st18, st19, st20, st21, st22, st23, st24, st25, st26, st27, st28, st29, st30, st31, st32, st33, st34, st35, st36, st37, st38, st39, st40, st41, st42, st43, st44, st45, st46, st47, st48, st49, st50, st51, st52, st53, st54, st55, st56, st57, st58, st59, st60, st61, st62, st63, st64, st65, st66, st67, st68, st69, st70, st71, st72, st73, st74, st75, st76, st77, st78, st79, st80, st81, st82, st83, st84, st85, st86, st87, st88, st89, st90, st91, hz0, show ¬ 0 ≤ zz9 by omega]))) <;> (try (first | omega | exact hz))
            · obtain ⟨n, hn⟩ : ∃ n : Nat, fdZ T here L = (n : Int) := ⟨(fdZ T here L).toNat, by omega⟩
              have hn48 := (p6 n (wkR T false here [46]).2 (by rw [← hn, hZ])).1
              rw [hn]
              simp [wp_eq, wpE, mk_X10_find, mg, mc_X10_find, lget, lset, popN, cats, rcv, entL, isArr, kC_s, kC_n, st1, st2, st3, st4, st5, st6, st7, st8, st9, st10, st11, st12, st13, st14, st15, st16, st17, st18, st19, st20, st21, st22, st23, st24, st25, st26, st27, st28, st29, st30, st31, st32, st33, st34, st35, st36, st37, st38, st39, st40, st41, st42, st43, st44, st45, st46, st47, st48, st49, st50, st51, st52, st53, st54, st55, st56, st57, st58, st59, st60, st61, st62, st63, st64, st65, st66, st67, st68, st69, st70, st71, st72, st73, st74, st75, st76, st77, st78, st79, st80, st81, st82, st83, st84, st85, st86, st87, st88, st89, st90, st91, z1, z2, z3, g6, hd0, show ¬ (n : Int) < 0 by omega]
              refine fend h6 n 1 (G 0) 0 51 C6 E6 D6 f6 d6 ⟨h1, hl, by omega⟩ hn hn48 (Or.inr rfl) g6 (fun q => by have h11 : hty h6 (c + 25) = some (21, 820) := C6.1.1 (25, 21, 820) (by decide); rw [q, h11] at g6; cases g6) (by rw [hP]; simp) (by omega) (by rw [hP]; intro j hj; simp at hj; subst hj; have := d6.2 0; rw [hg2] at this; simpa [lf] using this) (by rw [hP]; exact b46) (by rw [hP]; simp) (by rw [hP]; simp) 1 _ _ (by rw [hP]; rfl) (fun h' zz => ?_)
              have hz := zz
              (repeat' (first | with_reducible assumption | (refine And.intro ?_ ?_) | (with_reducible intro _) | (simp [wp_eq, wpE, mk_X10_find, mg, mc_X10_find, lget, lset, popN, cats, rcv, entL, isArr, kC_s, kC_n, st1, st2, st3, st4, st5, st6, st7, st8, st9, st10, st11, st12, st13, st14, st15, st16, st17, st18, st19, st20, st21, st22, st23, st24, st25, st26, st27, st28, st29, st30, st31, st32, st33, st34, st35, st36, st37, st38, st39, st40, st41, st42, st43, st44, st45, st46, st47, st48, st49, st50, st51, st52, st53, st54, st55, st56, st57, st58, st59, st60, st61, st62, st63, st64, st65, st66, st67, st68, st69, st70, st71, st72, st73, st74, st75, st76, st77, st78, st79, st80, st81, st82, st83, st84, st85, st86, st87, st88, st89, st90, st91]))) <;> (try (first | omega | exact hz))
          | true =>
            have hf0 : fst = 1 := by rw [hf]; unfold fdX; rw [hp]; rfl
            have hP : fdP L = wd L 0 := by unfold fdP; rw [hp]; rfl
            have h0 := isPth_0 hp
            have hZ : fdZ T here L = (nwR T here L 0 false).1 := by unfold fdZ nwR; rw [hP, if_pos h0]
            have hat := wds_at h0
            have hwl := wd_len L 0
            subst hf0
            have cw : ∀ {C : mQ} {X : mX}, (∀ h', ch (yS (c + 10)) h5 h' → CS c h' L T here [] 0 (-1) → (∀ (n : Nat) cm, nwR T here L 0 false = ((n : Int), cm) → n < 48 ∧ cmO (c + 10) (c + 5) h' T n cm) → C (some (.inl (nwR T here L 0 false).1)) h') → callG (wp G) d 86 0 0 3 [.inr (.inl (some c)), .inl 0, .inl 0] h5 C X := fun {C X} z => c_nodeOfWord2 (k := 0) (fol := false) (by omega) C5 z
            simp [wp_eq, wpE, mk_X10_find, mg, mc_X10_find, lget, lset, popN, cats, rcv, entL, isArr, kC_s, kC_n, st1, st2, st3, st4, st5, st6, st7, st8, st9, st10, st11, st12, st13, st14, st15, st16, st17, st18, st19, st20, st21, st22, st23, st24, st25, st26, st27, st28, st29, st30, st31, st32, st33, st34, st35, st36, st37, st38, st39, st40, st41, st42, st43, st44, st45, st46, st47, st48, st49, st50, st51, st52, st53, st54, st55, st56, st57, st58, st59, st60, st61, st62, st63, st64, st65, st66, st67, st68, st69, st70, st71, st72, st73, st74, st75, st76, st77, st78, st79, st80, st81, st82, st83, st84, st85, st86, st87, st88, st89, st90, st91, w1, w2, w3, hd0]
            refine cw (fun h6 q6 C6 p6 => ?_)
            obtain ⟨E6, D6, f6, d6⟩ := fwalk h6 0 q6 C6
            rw [← hZ]
            have L6 := C6.2.1
            have z1 : hty h6 c = some (10, 7) := C6.1.1 (0, 10, 7) (by decide)
            have z2 : hvr h6 c 5 = some (c + 19) := C6.1.2 (0, 5, 19) (by decide)
            have z3 : hty h6 (c + 19) = some (2, 14) := C6.1.1 (19, 2, 14) (by decide)
            have z4 : hvr h6 c 0 = some (c + 1) := C6.1.2 (0, 0, 1) (by decide)
            have z5 := L6.1.1
            have z6 := L6.1.2.1
            have z7 := L6.1.2.2.2.2.1
            by_cases hz0 : fdZ T here L < 0
            · have hz := hneg h6 C6 d6 hz0
              generalize fdZ T here L = zz9 at *
              (repeat' (first | with_reducible assumption | (refine And.intro ?_ ?_) | (with_reducible intro _) | (simp [wp_eq, wpE, mk_X10_find, mg, mc_X10_find, lget, lset, popN, cats, rcv, entL, isArr, kC_s, kC_n, st1, st2, st3, st4, st5, st6, st7, st8, st9, st10, st11, st12, st13, st14, st15, st16, st17, st18, st19, st20, st21, st22, st23, st24, st25, st26, st27, st28, st29, st30, st31, st32, st33, st34, st35, st36, st37, st38, st39, st40, st41, st42, st43, st44, st45, st46, st47, st48, st49, st50, st51, st52, st53, st54, st55, st56, st57, st58, st59, st60, st61, st62, st63, st64, st65, st66, st67, st68, st69, st70, st71, st72, st73, st74, st75, st76, st77, st78, st79, st80, st81, st82, st83, st84, st85, st86, st87, st88, st89, st90, st91, hz0, show ¬ 0 ≤ zz9 by omega]))) <;> (try (first | omega | exact hz))
            · obtain ⟨n, hn⟩ : ∃ n : Nat, fdZ T here L = (n : Int) := ⟨(fdZ T here L).toNat, by omega⟩
              have hn48 := (p6 n (nwR T here L 0 false).2 (by rw [← hn, hZ])).1
              rw [hn]
              have cst : ∀ {C : mQ} {X : mX}, C (some (.inl (wS L 0 : Int))) h6 → callG (wp G) d 29 0 0 2 [.inr (.inl (some (c + 1))), .inl 0] h6 C X := fun {C X} z => c_start (k := 0) L6 z
              have cen : ∀ {C : mQ} {X : mX}, C (some (.inl (wE L 0 : Int))) h6 → callG (wp G) d 30 0 0 2 [.inr (.inl (some (c + 1))), .inl 0] h6 C X := fun {C X} z => c_end (k := 0) L6 z
              simp [wp_eq, wpE, mk_X10_find, mg, mc_X10_find, lget, lset, popN, cats, rcv, entL, isArr, kC_s, kC_n, st1, st2, st3, st4, st5, st6, st7, st8, st9, st10, st11, st12, st13, st14, st15, st16, st17, st18, st19, st20, st21, st22, st23, st24, st25, st26, st27, st28, st29, st30, st31, st32, st33, st34, st35, st36, st37, st38, st39, st40, st41, st42, st43, st44, st45, st46, st47, st48, st49, st50, st51, st52, st53, st54, st55, st56, st57, st58, st59, st60, st61, st62, st63, st64, st65, st66, st67, st68, st69, st70, st71, st72, st73, st74, st75, st76, st77, st78, st79, st80, st81, st82, st83, st84, st85, st86, st87, st88, st89, st90, st91, z1, z2, z3, z4, z5, z6, z7, hd0, show ¬ (n : Int) < 0 by omega]
              refine cst ?_
              simp [wp_eq, wpE, mk_X10_find, mg, mc_X10_find, lget, lset, popN, cats, rcv, entL, isArr, kC_s, kC_n, st1, st2, st3, st4, st5, st6, st7, st8, st9, st10, st11, st12, st13, st14, st15, st16, st17, st18, st19, st20, st21, st22, st23, st24, st25, st26, st27, st28, st29, st30, st31, st32, st33, st34, st35, st36, st37, st38, st39, st40, st41, st42, st43, st44, st45, st46, st47, st48, st49, st50, st51, st52, st53, st54, st55, st56, st57, st58, st59, st60, st61, st62, st63, st64, st65, st66, st67, st68, st69, st70, st71, st72, st73, st74, st75, st76, st77, st78, st79, st80, st81, st82, st83, st84, st85, st86, st87, st88, st89, st90, st91, z1, z2, z3, z4, z5, z6, z7, hd0, show ¬ (n : Int) < 0 by omega]
              refine cen ?_
              simp [wp_eq, wpE, mk_X10_find, mg, mc_X10_find, lget, lset, popN, cats, rcv, entL, isArr, kC_s, kC_n, st1, st2, st3, st4, st5, st6, st7, st8, st9, st10, st11, st12, st13, st14, st15, st16, st17, st18, st19, st20, st21, st22, st23, st24, st25, st26, st27, st28, st29, st30, st31, st32, st33, st34, st35, st36, st37, st38, st39, st40, st41, st42, st43, st44, st45, st46, st47, st48, st49, st50, st51, st52, st53, st54, st55, st56, st57, st58, st59, st60, st61, st62, st63, st64, st65, st66, st67, st68, st69, st70, st71, st72, st73, st74, st75, st76, st77, st78, st79, st80, st81, st82, st83, st84, st85, st86, st87, st88, st89, st90, st91, z1, z2, z3, z4, z5, z6, z7, hd0, show ¬ (n : Int) < 0 by omega]
              refine fend h6 n 100 (c + 1 + 1) (wS L 0) 21 C6 E6 D6 f6 d6 ⟨h1, hl, by omega⟩ hn hn48 (Or.inl rfl) z7 (by omega) (by rw [hP]; omega) (by omega) (by rw [hP]; intro i hi; rw [wd_get (by omega)]; exact L6.2.1.2.2.1 _ (by omega)) (by rw [hP]; exact wd_b L6.2.2 0) (by rw [hP]; omega) (by rw [hP]; omega) _ _ _ (by rw [hP]; omega) (fun h' zz => ?_)
              have hz := zz
              (repeat' (first | with_reducible assumption | (refine And.intro ?_ ?_) | (with_reducible intro _) | (simp [wp_eq, wpE, mk_X10_find, mg, mc_X10_find, lget, lset, popN, cats, rcv, entL, isArr, kC_s, kC_n, st1, st2, st3, st4, st5, st6, st7, st8, st9, st10, st11, st12, st13, st14, st15, st16, st17, st18, st19, st20, st21, st22, st23, st24, st25, st26, st27, st28, st29, st30, st31, st32, st33, st34, st35, st36, st37, st38, st39, st40, st41, st42, st43, st44, st45, st46, st47, st48, st49, st50, st51, st52, st53, st54, st55, st56, st57, st58, st59, st60, st61, st62, st63, st64, st65, st66, st67, st68, st69, st70, st71, st72, st73, st74, st75, st76, st77, st78, st79, st80, st81, st82, st83, st84, st85, st86, st87, st88, st89, st90, st91]))) <;> (try (first | omega | exact hz))
        · have hng : ¬ fdG T here L := fun q => hl q.2.1
          have eR : fiR T here L pr = lkN T here L (fdK L).2 := by unfold fiR; rw [if_neg (by rw [h1]; simp), if_pos hl]
          have hz := hC h5 (by unfold fiO fiC; rw [if_neg hng, if_neg hng, h1]; exact C5) d5
          rw [eR] at hz
          generalize lkN T here L (fdK L).2 = zz9 at *
          (repeat' (first | with_reducible assumption | (refine And.intro ?_ ?_) | (with_reducible intro _) | (simp [wp_eq, wpE, mk_X10_find, mg, mc_X10_find, lget, lset, popN, cats, rcv, entL, isArr, kC_s, kC_n, st1, st2, st3, st4, st5, st6, st7, st8, st9, st10, st11, st12, st13, st14, st15, st16, st17, st18, st19, st20, st21, st22, st23, st24, st25, st26, st27, st28, st29, st30, st31, st32, st33, st34, st35, st36, st37, st38, st39, st40, st41, st42, st43, st44, st45, st46, st47, st48, st49, st50, st51, st52, st53, st54, st55, st56, st57, st58, st59, st60, st61, st62, st63, st64, st65, st66, st67, st68, st69, st70, st71, st72, st73, st74, st75, st76, st77, st78, st79, st80, st81, st82, st83, st84, st85, st86, st87, st88, st89, st90, st91, hl]))) <;> (try (first | omega | exact hz))
      · have hng : ¬ fdG T here L := fun q => h1 q.1
        have eR : fiR T here L pr = -12 := by unfold fiR; rw [if_pos h1]
        have hz := hC h4 (by unfold fiO fiC; rw [if_neg hng, if_neg hng]; exact C4) d4
        rw [eR] at hz
        generalize (fdK L).1 = zz9 at *
        (repeat' (first | with_reducible assumption | (refine And.intro ?_ ?_) | (with_reducible intro _) | (simp [wp_eq, wpE, mk_X10_find, mg, mc_X10_find, lget, lset, popN, cats, rcv, entL, isArr, kC_s, kC_n, st1, st2, st3, st4, st5, st6, st7, st8, st9, st10, st11, st12, st13, st14, st15, st16, st17, st18, st19, st20, st21, st22, st23, st24, st25, st26, st27, st28, st29, st30, st31, st32, st33, st34, st35, st36, st37, st38, st39, st40, st41, st42, st43, st44, st45, st46, st47, st48, st49, st50, st51, st52, st53, st54, st55, st56, st57, st58, st59, st60, st61, st62, st63, st64, st65, st66, st67, st68, st69, st70, st71, st72, st73, st74, st75, st76, st77, st78, st79, st80, st81, st82, st83, st84, st85, st86, st87, st88, st89, st90, st91, y1, v6, h1]))) <;> (try (first | omega | exact hz))
    simp [wp_eq, wpE, mk_X10_find, mg, mc_X10_find, lget, lset, popN, cats, rcv, entL, isArr, kC_s, kC_n, st1, st2, st3, st4, st5, st6, st7, st8, st9, st10, st11, st12, st13, st14, st15, st16, st17, st18, st19, st20, st21, st22, st23, st24, st25, st26, st27, st28, st29, st30, st31, st32, st33, st34, st35, st36, st37, st38, st39, st40, st41, st42, st43, st44, st45, st46, st47, st48, st49, st50, st51, st52, st53, st54, st55, st56, st57, st58, st59, st60, st61, st62, st63, st64, st65, st66, st67, st68, st69, st70, st71, st72, st73, st74, st75, st76, st77, st78, st79, st80, st81, st82, st83, st84, st85, st86, st87, st88, st89, st90, st91, x1, hd0]
    refine c_oob ?_
    rw [if_pos hb]
    simp [wp_eq, wpE, mk_X10_find, mg, mc_X10_find, lget, lset, popN, cats, rcv, entL, isArr, kC_s, kC_n, st1, st2, st3, st4, st5, st6, st7, st8, st9, st10, st11, st12, st13, st14, st15, st16, st17, st18, st19, st20, st21, st22, st23, st24, st25, st26, st27, st28, st29, st30, st31, st32, st33, st34, st35, st36, st37, st38, st39, st40, st41, st42, st43, st44, st45, st46, st47, st48, st49, st50, st51, st52, st53, st54, st55, st56, st57, st58, st59, st60, st61, st62, st63, st64, st65, st66, st67, st68, st69, st70, st71, st72, st73, st74, st75, st76, st77, st78, st79, st80, st81, st82, st83, st84, st85, st86, st87, st88, st89, st90, st91, x1, x2, x3, x4, x5, hd0, hty_I, hvi_I, hvr_I, hvl_I, hsz_I, hty_R, hvi_R, hvr_R, hvl_R, hsz_R, hty_L, hvi_L, hvr_L, hvl_L, hsz_L, hty_P, hvi_P, hvr_P, hvl_P, hsz_P, hty_C, hvi_C, hvr_C, hvl_C, hsz_C]
    refine c_begin (by simp [hty_I, hvi_I, hvr_I, hvl_I, hsz_I, hty_R, hvi_R, hvr_R, hvl_R, hsz_R, hty_L, hvi_L, hvr_L, hvl_L, hsz_L, hty_P, hvi_P, hvr_P, hvl_P, hsz_P, hty_C, hvi_C, hvr_C, hvl_C, hsz_C, x5]) ?_
    have y1 : hty (hsetI (hsetI (hsetI (hsetI (hsetI (hsetI h (c + 12) 1 0) (c + 19) 6 pr) (c + 19) 7 0) (c + 19) 8 0) (c + 19) 9 0) (c + 19) 10 0) c = some (10, 7) := x1
    have y6 : hvr (hsetI (hsetI (hsetI (hsetI (hsetI (hsetI h (c + 12) 1 0) (c + 19) 6 pr) (c + 19) 7 0) (c + 19) 8 0) (c + 19) 9 0) (c + 19) 10 0) c 0 = some (c + 1) := x6
    have y7 : hty (hsetI (hsetI (hsetI (hsetI (hsetI (hsetI h (c + 12) 1 0) (c + 19) 6 pr) (c + 19) 7 0) (c + 19) 8 0) (c + 19) 9 0) (c + 19) 10 0) (c + 1) = some (4, 5) := x7
    have y8 : hvr (hsetI (hsetI (hsetI (hsetI (hsetI (hsetI h (c + 12) 1 0) (c + 19) 6 pr) (c + 19) 7 0) (c + 19) 8 0) (c + 19) 9 0) (c + 19) 10 0) c 4 = some (c + 14) := x8
    have y9 : hty (hsetI (hsetI (hsetI (hsetI (hsetI (hsetI h (c + 12) 1 0) (c + 19) 6 pr) (c + 19) 7 0) (c + 19) 8 0) (c + 19) 9 0) (c + 19) 10 0) (c + 14) = some (1, 8) := x9
    generalize hsetI (hsetI (hsetI (hsetI (hsetI (hsetI h (c + 12) 1 0) (c + 19) 6 pr) (c + 19) 7 0) (c + 19) 8 0) (c + 19) 9 0) (c + 19) 10 0 = hB at *
    have gread : ∀ fst, fst = fdX L → ∀ {C' : mQ} {X' : mX}, (∀ h', (fst = fdX L → wp G d 80 61 [some (.inr (.inl (some c))), some (.inl pr), some (.inl (fst : Int)), none, none] [] (hsetI h' c 6 (fdK L).1) 1 6 C X) → hty h' c = some (10, 7) → C' (some (.inl (fdK L).1)) h') → callG (wp G) d 4 0 0 6 [.inr (.inl (some (c + 14))), .inl (fst : Int)] hB C' X' := by
      intro fst hf C' X' hC'
      have hfle : fst ≤ (wds L).length := by
        rw [hf]; unfold fdX
        by_cases hp : isPth L = true
        · rw [if_pos hp]; have := isPth_0 hp; omega
        · rw [if_neg hp]; omega
      refine c_readT (by omega) (by omega) (CF_XT CB.1) CB.2.1 hfle (fun h' q1 q2 q3 => ?_)
      rw [hf] at q2 q3 ⊢
      have s1 : chI (SF c) hB h' := chI_mono (fun x hx => by unfold S5 at hx; unfold SF; omega) q1
      have nn : ∀ j, hvi h' (c + 19) j = hvi hB (c + 19) j := fun j => q1.2.2.2.2 _ _ (by unfold S5; omega)
      have CR := CS_chI (cp' := 0) CB s1 (PG_chI q1 (by unfold S5; omega) (by unfold S5; omega) CB.2.2.2.2.2.1) (by rw [nn]; exact CB.2.2.2.2.2.2.1)
      refine hC' h' (fun _ => ?_) (by rw [q1.2.1]; exact y1)
      rw [hf]
      exact fread h' (fdX L) rfl CR q3 ⟨by rw [nn]; exact fB.1, by rw [nn]; exact fB.2.1, by rw [nn]; exact fB.2.2.1, by rw [nn]; exact fB.2.2.2⟩ (dt_tr DB (dt_CF CB.1 (by rw [DB.1]; exact hg) (chI_mono (fun x hx => Or.inl hx) s1)))
    simp [wp_eq, wpE, mk_X10_find, mg, mc_X10_find, lget, lset, popN, cats, rcv, entL, isArr, kC_s, kC_n, st1, st2, st3, st4, st5, st6, st7, st8, st9, st10, st11, st12, st13, st14, st15, st16, st17, st18, st19, st20, st21, st22, st23, st24, st25, st26, st27, st28, st29, st30, st31, st32, st33, st34, st35, st36, st37, st38, st39, st40, st41, st42, st43, st44, st45, st46, st47, st48, st49, st50, st51, st52, st53, st54, st55, st56, st57, st58, st59, st60, st61, st62, st63, st64, st65, st66, st67, st68, st69, st70, st71, st72, st73, st74, st75, st76, st77, st78, st79, st80, st81, st82, st83, st84, st85, st86, st87, st88, st89, st90, st91, y1, y6, y7, hd0]
    refine c_begsPath (by omega) CB.2.1 ?_
    cases hp : isPth L with
    | true =>
      have gr := fun {C' : mQ} {X' : mX} => gread 1 (by unfold fdX; rw [hp]; rfl) (C' := C') (X' := X')
      simp [wp_ne 61, wpE, mk_X10_find, mg, mc_X10_find, lget, lset, popN, cats, rcv, entL, isArr, kC_s, kC_n, st1, st2, st3, st4, st5, st6, st7, st8, st9, st10, st11, st12, st13, st14, st15, st16, st17, st18, st19, st20, st21, st22, st23, st24, st25, st26, st27, st28, st29, st30, st31, st32, st33, st34, st35, st36, st37, st38, st39, st40, st41, st42, st43, st44, st45, st46, st47, st48, st49, st50, st51, st52, st53, st54, st55, st56, st57, st58, st59, st60, st61, st62, st63, st64, st65, st66, st67, st68, st69, st70, st71, st72, st73, st74, st75, st76, st77, st78, st79, st80, st81, st82, st83, st84, st85, st86, st87, st88, st89, st90, st91, b01, y1, y8, y9, hd0]
      refine gr (fun zzh zz1 zz2 => ?_)
      have hz := zz1 (by unfold fdX; rw [hp]; rfl)
      (repeat' (first | with_reducible assumption | (refine And.intro ?_ ?_) | (with_reducible intro _) | (simp [wp_ne 61, wpE, mk_X10_find, mg, mc_X10_find, lget, lset, popN, cats, rcv, entL, isArr, kC_s, kC_n, st1, st2, st3, st4, st5, st6, st7, st8, st9, st10, st11, st12, st13, st14, st15, st16, st17, st18, st19, st20, st21, st22, st23, st24, st25, st26, st27, st28, st29, st30, st31, st32, st33, st34, st35, st36, st37, st38, st39, st40, st41, st42, st43, st44, st45, st46, st47, st48, st49, st50, st51, st52, st53, st54, st55, st56, st57, st58, st59, st60, st61, st62, st63, st64, st65, st66, st67, st68, st69, st70, st71, st72, st73, st74, st75, st76, st77, st78, st79, st80, st81, st82, st83, st84, st85, st86, st87, st88, st89, st90, st91, zz2]))) <;> (try (first | omega | exact hz))
    | false =>
      have gr := fun {C' : mQ} {X' : mX} => gread 0 (by unfold fdX; rw [hp]; rfl) (C' := C') (X' := X')
      simp [wp_ne 61, wpE, mk_X10_find, mg, mc_X10_find, lget, lset, popN, cats, rcv, entL, isArr, kC_s, kC_n, st1, st2, st3, st4, st5, st6, st7, st8, st9, st10, st11, st12, st13, st14, st15, st16, st17, st18, st19, st20, st21, st22, st23, st24, st25, st26, st27, st28, st29, st30, st31, st32, st33, st34, st35, st36, st37, st38, st39, st40, st41, st42, st43, st44, st45, st46, st47, st48, st49, st50, st51, st52, st53, st54, st55, st56, st57, st58, st59, st60, st61, st62, st63, st64, st65, st66, st67, st68, st69, st70, st71, st72, st73, st74, st75, st76, st77, st78, st79, st80, st81, st82, st83, st84, st85, st86, st87, st88, st89, st90, st91, b01, y1, y8, y9, hd0]
      refine gr (fun zzh zz1 zz2 => ?_)
      have hz := zz1 (by unfold fdX; rw [hp]; rfl)
      (repeat' (first | with_reducible assumption | (refine And.intro ?_ ?_) | (with_reducible intro _) | (simp [wp_ne 61, wpE, mk_X10_find, mg, mc_X10_find, lget, lset, popN, cats, rcv, entL, isArr, kC_s, kC_n, st1, st2, st3, st4, st5, st6, st7, st8, st9, st10, st11, st12, st13, st14, st15, st16, st17, st18, st19, st20, st21, st22, st23, st24, st25, st26, st27, st28, st29, st30, st31, st32, st33, st34, st35, st36, st37, st38, st39, st40, st41, st42, st43, st44, st45, st46, st47, st48, st49, st50, st51, st52, st53, st54, st55, st56, st57, st58, st59, st60, st61, st62, st63, st64, st65, st66, st67, st68, st69, st70, st71, st72, st73, st74, st75, st76, st77, st78, st79, st80, st81, st82, st83, st84, st85, st86, st87, st88, st89, st90, st91, zz2]))) <;> (try (first | omega | exact hz))
  · have hX := hX hb
    simp [wp_eq, wpE, mk_X10_find, mg, mc_X10_find, lget, lset, popN, cats, rcv, entL, isArr, kC_s, kC_n, st1, st2, st3, st4, st5, st6, st7, st8, st9, st10, st11, st12, st13, st14, st15, st16, st17, st18, st19, st20, st21, st22, st23, st24, st25, st26, st27, st28, st29, st30, st31, st32, st33, st34, st35, st36, st37, st38, st39, st40, st41, st42, st43, st44, st45, st46, st47, st48, st49, st50, st51, st52, st53, st54, st55, st56, st57, st58, st59, st60, st61, st62, st63, st64, st65, st66, st67, st68, st69, st70, st71, st72, st73, st74, st75, st76, st77, st78, st79, st80, st81, st82, st83, st84, st85, st86, st87, st88, st89, st90, st91, x1, hd0]
    refine c_oob ?_
    rw [if_neg hb]
    have hz := hX
    (repeat' (first | with_reducible assumption | (refine And.intro ?_ ?_) | (with_reducible intro _) | (simp [wp_eq, wpE, mk_X10_find, mg, mc_X10_find, lget, lset, popN, cats, rcv, entL, isArr, kC_s, kC_n, st1, st2, st3, st4, st5, st6, st7, st8, st9, st10, st11, st12, st13, st14, st15, st16, st17, st18, st19, st20, st21, st22, st23, st24, st25, st26, st27, st28, st29, st30, st31, st32, st33, st34, st35, st36, st37, st38, st39, st40, st41, st42, st43, st44, st45, st46, st47, st48, st49, st50, st51, st52, st53, st54, st55, st56, st57, st58, st59, st60, st61, st62, st63, st64, st65, st66, st67, st68, st69, st70, st71, st72, st73, st74, st75, st76, st77, st78, st79, st80, st81, st82, st83, st84, st85, st86, st87, st88, st89, st90, st91]))) <;> (try (first | omega | exact hz))
