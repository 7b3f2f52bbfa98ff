/-! PATTERNS: a name and a pattern -/
def fit (f : Nat → Int) (i : Nat) (cl c : Int) : Bool := if cl = -1 then (f i == 63) || (f i == c) else isn f i cl.toNat c
def gst (R : Nat → Bool) (k : Nat) : Bool := decide (∃ i, i ≤ k ∧ R i = true)
def glR (f : Nat → Int) (i : Nat) (cl : Int) (w : List Int) (R : Nat → Bool) : Nat → Bool
  | 0 => false
  | k + 1 => R k && fit f i cl (lf w k)
def clI (f : Nat → Int) (to i : Nat) : Int := if f i = 91 then clsg f to i else -1
def nxI (f : Nat → Int) (to i : Nat) : Nat := if clI f to i = -1 then i + 1 else (clI f to i).toNat + 1
def glb (f : Nat → Int) (to : Nat) (w : List Int) : Nat → Nat → (Nat → Bool) → Bool
  | 0, _, R => R w.length
  | m + 1, i, R => if i < to then glb f to w m (nxI f to i) (if f i = 42 then gst R else glR f i (clI f to i) w R) else R w.length
def glM (L : List Int) (k : Nat) (w : List Int) : Bool := glb (lf L) (wE L k) w 101 (wS L k) (fun j => j == 0)
theorem f93_rng {f : Nat → Int} {to : Nat} : ∀ (m k : Nat), f93 f to m k = -1 ∨ ∃ q : Nat, f93 f to m k = (q : Int) ∧ k ≤ q ∧ q < to ∧ f q = 93 ∧ ∀ j, k ≤ j → j < q → ¬ f j = 93 := by
  intro m
  induction m with
  | zero => intro k; exact Or.inl rfl
  | succ m ih =>
    intro k
    simp only [f93]
    by_cases h1 : k < to
    · rw [if_pos h1]
      by_cases h2 : f k = 93
      · rw [if_pos h2]; exact Or.inr ⟨k, rfl, Nat.le_refl _, h1, h2, fun j _ _ => by omega⟩
      · rw [if_neg h2]
        rcases ih (k + 1) with q | ⟨q, e, q1, q2, q3, q4⟩
        · exact Or.inl q
        · refine Or.inr ⟨q, e, by omega, q2, q3, fun j j1 j2 => ?_⟩
          by_cases hj : j = k
          · subst hj; exact h2
          · exact q4 j (by omega) j2
    · rw [if_neg h1]; exact Or.inl rfl
theorem f93_no {f : Nat → Int} {to : Nat} : ∀ (m k : Nat), to < m + k → f93 f to m k = -1 → ∀ j, k ≤ j → j < to → ¬ f j = 93 := by
  intro m
  induction m with
  | zero => intro k h _ j h1 h2; omega
  | succ m ih =>
    intro k h h0 j h1 h2
    simp only [f93] at h0
    rw [if_pos (by omega)] at h0
    by_cases h3 : f k = 93
    · rw [if_pos h3] at h0; omega
    · rw [if_neg h3] at h0
      by_cases hj : j = k
      · subst hj; exact h3
      · exact ih (k + 1) (by omega) h0 j (by omega) h2
theorem insd_rng {f : Nat → Int} {to o : Nat} : insd f to o = o + 1 ∨ insd f to o = o + 2 := by
  unfold insd; by_cases h : o + 1 < to ∧ f (o + 1) = 33
  · rw [if_pos h]; exact Or.inr rfl
  · rw [if_neg h]; exact Or.inl rfl
theorem clsg_rng {f : Nat → Int} {to o : Nat} : clsg f to o = -1 ∨ ∃ q : Nat, clsg f to o = (q : Int) ∧ o + 2 ≤ q ∧ insd f to o + 1 ≤ q ∧ q < to ∧ f q = 93 ∧ ∀ j, insd f to o + 1 ≤ j → j < q → ¬ f j = 93 := by
  have h1 := insd_rng (f := f) (to := to) (o := o)
  rcases f93_rng (f := f) (to := to) (to + 1) (insd f to o + 1) with q | ⟨q, e, q1, q2, q3, q4⟩
  · exact Or.inl q
  · exact Or.inr ⟨q, e, by omega, q1, q2, q3, q4⟩
theorem clI_rng {f : Nat → Int} {to i : Nat} : clI f to i = -1 ∨ ∃ q : Nat, clI f to i = (q : Int) ∧ i + 2 ≤ q ∧ q < to ∧ clsg f to i = (q : Int) ∧ f i = 91 := by
  unfold clI
  by_cases h : f i = 91
  · rw [if_pos h]
    rcases clsg_rng (f := f) (to := to) (o := i) with q | ⟨q, e, q1, -, q2, -⟩
    · exact Or.inl q
    · exact Or.inr ⟨q, e, q1, q2, e, h⟩
  · rw [if_neg h]; exact Or.inl rfl
theorem nxI_rng {f : Nat → Int} {to i : Nat} (hi : i < to) : i < nxI f to i ∧ nxI f to i ≤ to := by
  unfold nxI
  rcases clI_rng (f := f) (to := to) (i := i) with q | ⟨q, e, q1, q2, -, -⟩
  · rw [q]; simp; omega
  · rw [e, if_neg (by omega)]; simp; omega
theorem nxI_max {f : Nat → Int} {to i : Nat} : (if (i : Int) < clI f to i then clI f to i else (i : Int)) + 1 = (nxI f to i : Int) := by
  unfold nxI
  rcases clI_rng (f := f) (to := to) (i := i) with q | ⟨q, e, q1, q2, -, -⟩
  · rw [q, if_neg (by omega), if_pos rfl]; omega
  · rw [e, if_pos (by omega), if_neg (by omega)]; simp
theorem glb_0 {f : Nat → Int} {to : Nat} {w : List Int} : ∀ (m i : Nat) (R : Nat → Bool), (∀ j, R j = false) → glb f to w m i R = false := by
  intro m
  induction m with
  | zero => intro i R h; exact h _
  | succ m ih =>
    intro i R h
    simp only [glb]
    by_cases hi : i < to
    · rw [if_pos hi]
      refine ih _ _ (fun j => ?_)
      by_cases h42 : f i = 42
      · rw [if_pos h42]; unfold gst; simp; intro x _; exact h x
      · rw [if_neg h42]
        cases j with
        | zero => rfl
        | succ j => simp [glR, h]
    · rw [if_neg hi]; exact h _
theorem gst_cg {R R' : Nat → Bool} {n : Nat} (h : ∀ j, j ≤ n → R j = R' j) : ∀ j, j ≤ n → gst R j = gst R' j := by
  intro j hj
  unfold gst
  congr 1
  refine propext ⟨fun ⟨i, hi, q⟩ => ⟨i, hi, by rw [← h i (by omega)]; exact q⟩, fun ⟨i, hi, q⟩ => ⟨i, hi, by rw [h i (by omega)]; exact q⟩⟩
theorem glb_cg {f : Nat → Int} {to : Nat} {w : List Int} : ∀ (m i : Nat) (R R' : Nat → Bool), (∀ j, j ≤ w.length → R j = R' j) → glb f to w m i R = glb f to w m i R' := by
  intro m
  induction m with
  | zero => intro i R R' h; exact h _ (Nat.le_refl _)
  | succ m ih =>
    intro i R R' h
    simp only [glb]
    by_cases hi : i < to
    · rw [if_pos hi, if_pos hi]
      refine ih _ _ _ (fun j hj => ?_)
      by_cases h42 : f i = 42
      · rw [if_pos h42, if_pos h42]; exact gst_cg h j hj
      · rw [if_neg h42, if_neg h42]
        cases j with
        | zero => rfl
        | succ j => simp only [glR]; rw [h j (by omega)]
    · rw [if_neg hi, if_neg hi]; exact h _ (Nat.le_refl _)
def hbt (n : Nat) (e : Int) (R : Nat → Bool) : Prop := (0 ≤ e ∧ e < 65536) ∧ ∀ j, j < 32 → bt e j = (decide (j ≤ n) && R j)
theorem c_fromLeastOn {G : Nat → Nat} {d n : Nat} {h : mH} {C : mQ} {X : mX} {e : Int} {R : Nat → Bool} (hn : n < 15) (he : hbt n e R) (hC : ∀ e', hbt n e' (gst R) → C (some (.inl e')) h) :
    callG (wp G) d 22 0 0 3 [.inl e, .inl (n : Int)] h C X := by
  obtain ⟨he1, he2⟩ := he
  have u1 := up_rng n hn
  have u2 := bnd_2k hn
  have u3 := bnd_and (b := -e) he1
  have hz := hC (fLo e n) ⟨bnd_and u1, fun j hj => by
    rw [bt_fLo hn hj]
    by_cases hjn : j ≤ n
    · simp only [hjn, decide_true, Bool.true_and]
      unfold gst
      congr 1
      refine propext ⟨fun ⟨i, hi, q⟩ => ⟨i, hi, ?_⟩, fun ⟨i, hi, q⟩ => ⟨i, hi, ?_⟩⟩
      · rw [he2 i (by omega)] at q; simp at q; exact q.2
      · rw [he2 i (by omega)]; simp [q]; omega
    · simp [hjn]⟩
  unfold fLo at hz
  refine ⟨C, fun _ _ => False, ?_, fun _ _ q => q, fun _ _ q => q.elim⟩
  (repeat' (first | with_reducible assumption | (refine And.intro ?_ ?_) | (with_reducible intro _) | (simp [wp_eq, wpE, mk_X3_fromLeastOn, mg, mc_X3_fromLeastOn, lget, lset, popN, cats, rcv, entL, isArr, kC_s, kC_n, st1, st2, st3, st4, st5, st6, st7, st8, st9, st10, st11, st12, st13, st14, st15, st16, st17, st18, st19, st20, st21, st22, st23, st24, st25, st26, st27, st28, st29, st30, st31, st32, st33, st34, st35, st36, st37, st38, st39, st40, st41, st42, st43, st44, st45, st46, st47, st48, st49, st50, st51, st52, st53, st54, st55, st56, st57, st58, st59, st60, st61, st62, st63, st64, st65, st66, st67, st68, st69, st70, st71, st72, st73, st74, st75, st76, st77, st78, st79, st80, st81, st82, st83, st84, st85, st86, st87, st88, st89, st90, st91, inR]))) <;> (try (first | omega | exact hz))
theorem gm_in {G : Nat → Nat} {d g l a to n i nx fr N : Nat} {h : mH} {C : mQ} {X : mX} {L w : List Int} {e cl : Int} {R : Nat → Bool} {x1 x4 : Option mV} (hd : 1 ≤ d) (HG : GL g l h to) (H : LI l h L) (hto : to ≤ L.length) (hi : i < to) (ha : hty h a = some (21, N)) (hN : fr + n ≤ N) (hN2 : N ≤ 60000) (hw : w.length = n) (hr : ro h a fr w) (hn : n ≤ 14) (he : hbt n e R) (hcl : cl = clI (lf L) to i)
    (hC : ∀ l' x13 x14, hbt n l' (glR (lf L) i cl w R) → wp G d 21 100068 [some (.inr (.inl (some g))), x1, some (.inr (.inl (some a))), some (.inl (fr : Int)), x4, some (.inl (n : Int)), some (.inr (.inl (some (l + 1)))), some (.inl l'), some (.inl (nx : Int)), some (.inl (nx : Int)), some (.inl cl), some (.inl l'), some (.inl (n : Int)), x13, x14] [] h 0 0 C X) :
    ∀ (m k : Nat) (lt : Int) (x13 x14 : Option mV), n ≤ k + m → k ≤ n → hbt k lt (glR (lf L) i cl w R) →
    wp G d 21 100143 [some (.inr (.inl (some g))), x1, some (.inr (.inl (some a))), some (.inl (fr : Int)), x4, some (.inl (n : Int)), some (.inr (.inl (some (l + 1)))), some (.inl e), some (.inl (nx : Int)), some (.inl (i : Int)), some (.inl cl), some (.inl lt), some (.inl (k : Int)), x13, x14] [] h 0 0 C X := by
  have hd0 : (0 < d) = True := eq_true (by omega)
  have HG' := HG
  obtain ⟨g1, g2, g3⟩ := HG'
  have HH := H
  obtain ⟨⟨a1, a2, a3, a4, a5, a6, a7⟩, ⟨b1, b2, b3, b4, b5⟩, b6⟩ := HH
  have ci := b3 i (by omega)
  intro m
  induction m with
  | zero =>
    intro k lt x13 x14 hm hkn hlt
    have hk : k = n := by omega
    subst hk
    rw [wp_hd]
    have hz := hC lt x13 x14 hlt
    (repeat' (first | with_reducible assumption | (refine And.intro ?_ ?_) | (with_reducible intro _) | (simp [wp_eq, wpE, mk_X3_matches, mg, mc_X3_matches, lget, lset, popN, cats, rcv, entL, isArr, kC_s, kC_n, st1, st2, st3, st4, st5, st6, st7, st8, st9, st10, st11, st12, st13, st14, st15, st16, st17, st18, st19, st20, st21, st22, st23, st24, st25, st26, st27, st28, st29, st30, st31, st32, st33, st34, st35, st36, st37, st38, st39, st40, st41, st42, st43, st44, st45, st46, st47, st48, st49, st50, st51, st52, st53, st54, st55, st56, st57, st58, st59, st60, st61, st62, st63, st64, st65, st66, st67, st68, st69, st70, st71, st72, st73, st74, st75, st76, st77, st78, st79, st80, st81, st82, st83, st84, st85, st86, st87, st88, st89, st90, st91]))) <;> (try (first | omega | exact hz))
  | succ m ih =>
    intro k lt x13 x14 hm hkn hlt
    rw [wp_hd]
    by_cases hk : k < n
    · have e1 : ((fr : Int) + (k : Int)).toNat = fr + k := by omega
      have ck : hvi h a (fr + k) = lf w k := hr k (by omega)
      have bk := bt_one e (k := k) (by omega)
      have bR : bt e k = R k := by rw [he.2 k (by omega)]; simp; omega
      rw [bR] at bk
      have hn0 : fit (lf L) i cl (lf w k) = false ∨ R k = false → hbt (k + 1) lt (glR (lf L) i cl w R) := fun q => ⟨hlt.1, fun j hj => by
        rw [hlt.2 j hj]
        by_cases hjk : j = k + 1
        · subst hjk
          simp only [glR]
          rcases q with q | q <;> simp [q]
        · by_cases hj2 : j ≤ k
          · simp [hj2, show j ≤ k + 1 by omega]
          · simp [hj2, show ¬ j ≤ k + 1 by omega]⟩
      have hn1 : fit (lf L) i cl (lf w k) = true → R k = true → hbt (k + 1) (bOr lt (bShl 2 (k : Int))) (glR (lf L) i cl w R) := fun q1 q2 => ⟨bnd_or hlt.1 (bnd_2k (by omega)), fun j hj => by
        rw [bt_or, bt_2k (by omega) hj, hlt.2 j hj]
        by_cases hjk : j = k + 1
        · subst hjk
          simp [glR, q1, q2]
        · by_cases hj2 : j ≤ k
          · simp [hj2, show j ≤ k + 1 by omega, hjk]
          · simp [hj2, show ¬ j ≤ k + 1 by omega, hjk]⟩
      have hgo : ∀ x13, wp G d 21 202 [some (.inr (.inl (some g))), x1, some (.inr (.inl (some a))), some (.inl (fr : Int)), x4, some (.inl (n : Int)), some (.inr (.inl (some (l + 1)))), some (.inl e), some (.inl (nx : Int)), some (.inl (i : Int)), some (.inl cl), some (.inl lt), some (.inl (k : Int)), x13, x14] [.inl (b01 (fit (lf L) i cl (lf w k)))] h 0 0 C X := by
        intro x13
        cases hf : fit (lf L) i cl (lf w k) with
        | false =>
          have hz := fun x14 => ih (k + 1) lt x13 x14 (by omega) (by omega) (hn0 (Or.inl hf))
          (repeat' (first | with_reducible assumption | (refine And.intro ?_ ?_) | (with_reducible intro _) | (simp [wp_eq, wpE, mk_X3_matches, mg, mc_X3_matches, lget, lset, popN, cats, rcv, entL, isArr, kC_s, kC_n, st1, st2, st3, st4, st5, st6, st7, st8, st9, st10, st11, st12, st13, st14, st15, st16, st17, st18, st19, st20, st21, st22, st23, st24, st25, st26, st27, st28, st29, st30, st31, st32, st33, st34, st35, st36, st37, st38, st39, st40, st41, st42, st43, st44, st45, st46, st47, st48, st49, st50, st51, st52, st53, st54, st55, st56, st57, st58, st59, st60, st61, st62, st63, st64, st65, st66, st67, st68, st69, st70, st71, st72, st73, st74, st75, st76, st77, st78, st79, st80, st81, st82, st83, st84, st85, st86, st87, st88, st89, st90, st91, b01, inR]))) <;> (try (first | omega | exact hz))
          all_goals first | omega | exact hz _
        | true =>
          cases hR : R k with
          | false =>
            have hz := fun x14 => ih (k + 1) lt x13 x14 (by omega) (by omega) (hn0 (Or.inr hR))
            rw [hR] at bk
            simp [b01] at bk
            (repeat' (first | with_reducible assumption | (refine And.intro ?_ ?_) | (with_reducible intro _) | (simp [wp_eq, wpE, mk_X3_matches, mg, mc_X3_matches, lget, lset, popN, cats, rcv, entL, isArr, kC_s, kC_n, st1, st2, st3, st4, st5, st6, st7, st8, st9, st10, st11, st12, st13, st14, st15, st16, st17, st18, st19, st20, st21, st22, st23, st24, st25, st26, st27, st28, st29, st30, st31, st32, st33, st34, st35, st36, st37, st38, st39, st40, st41, st42, st43, st44, st45, st46, st47, st48, st49, st50, st51, st52, st53, st54, st55, st56, st57, st58, st59, st60, st61, st62, st63, st64, st65, st66, st67, st68, st69, st70, st71, st72, st73, st74, st75, st76, st77, st78, st79, st80, st81, st82, st83, st84, st85, st86, st87, st88, st89, st90, st91, b01, bk, inR]))) <;> (try (first | omega | exact hz))
            all_goals first | omega | exact hz _
          | true =>
            have hz := fun x14 => ih (k + 1) _ x13 x14 (by omega) (by omega) (hn1 hf hR)
            rw [hR] at bk
            simp [b01] at bk
            (repeat' (first | with_reducible assumption | (refine And.intro ?_ ?_) | (with_reducible intro _) | (simp [wp_eq, wpE, mk_X3_matches, mg, mc_X3_matches, lget, lset, popN, cats, rcv, entL, isArr, kC_s, kC_n, st1, st2, st3, st4, st5, st6, st7, st8, st9, st10, st11, st12, st13, st14, st15, st16, st17, st18, st19, st20, st21, st22, st23, st24, st25, st26, st27, st28, st29, st30, st31, st32, st33, st34, st35, st36, st37, st38, st39, st40, st41, st42, st43, st44, st45, st46, st47, st48, st49, st50, st51, st52, st53, st54, st55, st56, st57, st58, st59, st60, st61, st62, st63, st64, st65, st66, st67, st68, st69, st70, st71, st72, st73, st74, st75, st76, st77, st78, st79, st80, st81, st82, st83, st84, st85, st86, st87, st88, st89, st90, st91, b01, bk, inR]))) <;> (try (first | omega | exact hz))
            all_goals first | omega | exact hz _
      by_cases hc1 : cl = -1
      · have hf : fit (lf L) i cl (lf w k) = ((lf L i == 63) || (lf L i == lf w k)) := by unfold fit; rw [if_pos hc1]
        rw [hf] at hgo
        by_cases h63 : lf L i = 63
        · have hz := hgo
          simp [h63, b01, hc1] at hz
          (repeat' (first | with_reducible assumption | (refine And.intro ?_ ?_) | (with_reducible intro _) | (simp [wp_ne 202, wpE, mk_X3_matches, mg, mc_X3_matches, lget, lset, popN, cats, rcv, entL, isArr, kC_s, kC_n, st1, st2, st3, st4, st5, st6, st7, st8, st9, st10, st11, st12, st13, st14, st15, st16, st17, st18, st19, st20, st21, st22, st23, st24, st25, st26, st27, st28, st29, st30, st31, st32, st33, st34, st35, st36, st37, st38, st39, st40, st41, st42, st43, st44, st45, st46, st47, st48, st49, st50, st51, st52, st53, st54, st55, st56, st57, st58, st59, st60, st61, st62, st63, st64, st65, st66, st67, st68, st69, st70, st71, st72, st73, st74, st75, st76, st77, st78, st79, st80, st81, st82, st83, st84, st85, st86, st87, st88, st89, st90, st91, a5, ha, e1, ck, ci, hc1, h63, hk, inR]))) <;> (try (first | omega | exact hz))
          all_goals first | omega | exact hz _
        · by_cases hcc : lf L i = lf w k
          · have hz := hgo
            simp [hcc, b01, hc1] at hz
            (repeat' (first | with_reducible assumption | (refine And.intro ?_ ?_) | (with_reducible intro _) | (simp [wp_ne 202, wpE, mk_X3_matches, mg, mc_X3_matches, lget, lset, popN, cats, rcv, entL, isArr, kC_s, kC_n, st1, st2, st3, st4, st5, st6, st7, st8, st9, st10, st11, st12, st13, st14, st15, st16, st17, st18, st19, st20, st21, st22, st23, st24, st25, st26, st27, st28, st29, st30, st31, st32, st33, st34, st35, st36, st37, st38, st39, st40, st41, st42, st43, st44, st45, st46, st47, st48, st49, st50, st51, st52, st53, st54, st55, st56, st57, st58, st59, st60, st61, st62, st63, st64, st65, st66, st67, st68, st69, st70, st71, st72, st73, st74, st75, st76, st77, st78, st79, st80, st81, st82, st83, st84, st85, st86, st87, st88, st89, st90, st91, a5, ha, e1, ck, ci, hc1, h63, hcc, hk, inR]))) <;> (try (first | omega | exact hz))
            all_goals first | omega | exact hz _
          · have hz := hgo
            simp [hcc, h63, b01, hc1] at hz
            (repeat' (first | with_reducible assumption | (refine And.intro ?_ ?_) | (with_reducible intro _) | (simp [wp_ne 202, wpE, mk_X3_matches, mg, mc_X3_matches, lget, lset, popN, cats, rcv, entL, isArr, kC_s, kC_n, st1, st2, st3, st4, st5, st6, st7, st8, st9, st10, st11, st12, st13, st14, st15, st16, st17, st18, st19, st20, st21, st22, st23, st24, st25, st26, st27, st28, st29, st30, st31, st32, st33, st34, st35, st36, st37, st38, st39, st40, st41, st42, st43, st44, st45, st46, st47, st48, st49, st50, st51, st52, st53, st54, st55, st56, st57, st58, st59, st60, st61, st62, st63, st64, st65, st66, st67, st68, st69, st70, st71, st72, st73, st74, st75, st76, st77, st78, st79, st80, st81, st82, st83, st84, st85, st86, st87, st88, st89, st90, st91, a5, ha, e1, ck, ci, hc1, h63, hcc, hk, inR]))) <;> (try (first | omega | exact hz))
            all_goals first | omega | exact hz _
      · rcases clI_rng (f := lf L) (to := to) (i := i) with q | ⟨q, eq, q1, q2, -, -⟩
        · rw [← hcl] at q; exact absurd q hc1
        · rw [← hcl] at eq
          have hf : fit (lf L) i cl (lf w k) = isn (lf L) i q (lf w k) := by unfold fit; rw [if_neg hc1, eq]; rfl
          rw [hf] at hgo
          subst eq
          have hz := hgo
          (repeat' (first | with_reducible assumption | (refine c_isInSet HG H (by omega) (by omega) ?_) | (refine And.intro ?_ ?_) | (with_reducible intro _) | (simp [wp_ne 202, wpE, mk_X3_matches, mg, mc_X3_matches, lget, lset, popN, cats, rcv, entL, isArr, kC_s, kC_n, st1, st2, st3, st4, st5, st6, st7, st8, st9, st10, st11, st12, st13, st14, st15, st16, st17, st18, st19, st20, st21, st22, st23, st24, st25, st26, st27, st28, st29, st30, st31, st32, st33, st34, st35, st36, st37, st38, st39, st40, st41, st42, st43, st44, st45, st46, st47, st48, st49, st50, st51, st52, st53, st54, st55, st56, st57, st58, st59, st60, st61, st62, st63, st64, st65, st66, st67, st68, st69, st70, st71, st72, st73, st74, st75, st76, st77, st78, st79, st80, st81, st82, st83, st84, st85, st86, st87, st88, st89, st90, st91, g1, a5, ha, e1, ck, ci, hc1, hk, hd0, inR]))) <;> (try (first | omega | exact hz))
          all_goals first | omega | exact hz _
    · have hk : k = n := by omega
      subst hk
      have hz := hC lt x13 x14 hlt
      (repeat' (first | with_reducible assumption | (refine And.intro ?_ ?_) | (with_reducible intro _) | (simp [wp_eq, wpE, mk_X3_matches, mg, mc_X3_matches, lget, lset, popN, cats, rcv, entL, isArr, kC_s, kC_n, st1, st2, st3, st4, st5, st6, st7, st8, st9, st10, st11, st12, st13, st14, st15, st16, st17, st18, st19, st20, st21, st22, st23, st24, st25, st26, st27, st28, st29, st30, st31, st32, st33, st34, st35, st36, st37, st38, st39, st40, st41, st42, st43, st44, st45, st46, st47, st48, st49, st50, st51, st52, st53, st54, st55, st56, st57, st58, st59, st60, st61, st62, st63, st64, st65, st66, st67, st68, st69, st70, st71, st72, st73, st74, st75, st76, st77, st78, st79, st80, st81, st82, st83, st84, st85, st86, st87, st88, st89, st90, st91]))) <;> (try (first | omega | exact hz))
