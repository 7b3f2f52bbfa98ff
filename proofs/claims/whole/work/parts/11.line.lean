/-! THE LINE of the class -/
def seg (f : Nat → Int) : Nat → Nat → List Int
  | _, 0 => []
  | i, n + 1 => f i :: seg f (i + 1) n
def lf (L : List Int) (i : Nat) : Int := L[i]?.getD 0
/-- the words from place i on; o: where the word began that is not at its end -/
def wdz : Option Nat → Nat → List Int → List (Nat × Nat)
  | none, _, [] => []
  | some s, i, [] => [(s, i)]
  | none, i, c :: L => if c = 32 then wdz none (i + 1) L else wdz (some i) (i + 1) L
  | some s, i, c :: L => if c = 32 then (s, i) :: wdz none (i + 1) L else wdz (some s) (i + 1) L
def wds (L : List Int) : List (Nat × Nat) := wdz none 0 L
def wS (L : List Int) (k : Nat) : Nat := ((wds L)[k]?.getD (0, 0)).1
def wE (L : List Int) (k : Nat) : Nat := ((wds L)[k]?.getD (0, 0)).2
def wd (L : List Int) (k : Nat) : List Int := (L.drop (wS L k)).take (wE L k - wS L k)
theorem seg_len (f : Nat → Int) (n : Nat) : ∀ i, (seg f i n).length = n := by
  induction n with
  | zero => intro i; rfl
  | succ n ih => intro i; simp [seg, ih]
theorem seg_get (f : Nat → Int) (n : Nat) : ∀ i k, k < n → (seg f i n)[k]? = some (f (i + k)) := by
  induction n with
  | zero => intro i k hk; omega
  | succ n ih =>
    intro i k hk
    cases k with
    | zero => simp [seg]
    | succ k => simp only [seg, List.getElem?_cons_succ]; rw [ih (i + 1) k (by omega)]; congr 2; omega
theorem wdz_ok : ∀ (L : List Int) (o : Option Nat) (i : Nat), (∀ s, o = some s → s < i) → ∀ p ∈ wdz o i L, p.1 < p.2 ∧ p.2 ≤ i + L.length := by
  intro L
  induction L with
  | nil =>
    intro o i ho p hp
    cases o with
    | none => simp [wdz] at hp
    | some s => simp [wdz] at hp; subst hp; have := ho s rfl; simp; omega
  | cons c L ih =>
    intro o i ho p hp
    cases o with
    | none =>
      simp only [wdz] at hp
      split at hp
      · have := ih none (i + 1) (by intro s h; cases h) p hp; simp; omega
      · have := ih (some i) (i + 1) (by intro s h; cases h; omega) p hp; simp; omega
    | some s =>
      simp only [wdz] at hp
      have h1 := ho s rfl
      split at hp
      · rcases List.mem_cons.mp hp with h | h
        · subst h; simp; omega
        · have := ih none (i + 1) (by intro s h; cases h) p h; simp; omega
      · have := ih (some s) (i + 1) (by intro s' h; cases h; omega) p hp; simp; omega
theorem wdz_len : ∀ (L : List Int) (o : Option Nat) (i : Nat), 2 * (wdz o i L).length ≤ L.length + 1 + (if o = none then 0 else 1) := by
  intro L
  induction L with
  | nil => intro o i; cases o <;> simp [wdz]
  | cons c L ih =>
    intro o i
    cases o with
    | none =>
      simp only [wdz]
      split
      · have := ih none (i + 1); simp at *; omega
      · have := ih (some i) (i + 1); simp at *; omega
    | some s =>
      simp only [wdz]
      split
      · have := ih none (i + 1); simp at *; omega
      · have := ih (some s) (i + 1); simp at *; omega
theorem wds_len {L : List Int} (h : L.length ≤ 100) : (wds L).length ≤ 50 := by have := wdz_len L none 0; simp [wds] at *; omega
theorem wds_at {L : List Int} {k : Nat} (h : k < (wds L).length) : wS L k < wE L k ∧ wE L k ≤ L.length := by
  have h1 := wdz_ok L none 0 (by intro s q; cases q) ((wds L)[k]) (List.getElem_mem h)
  simp only [wS, wE, List.getElem?_eq_getElem h, Option.getD_some]
  simpa using h1
theorem wds_no {L : List Int} {k : Nat} (h : ¬ k < (wds L).length) : wS L k = 0 ∧ wE L k = 0 := by
  simp [wS, wE, List.getElem?_eq_none (Nat.le_of_not_lt h)]
theorem wS_le (L : List Int) (k : Nat) : wS L k ≤ wE L k ∧ wE L k ≤ L.length := by
  by_cases h : k < (wds L).length
  · have := wds_at h; omega
  · have := wds_no h; omega
theorem wd_len (L : List Int) (k : Nat) : (wd L k).length = wE L k - wS L k := by
  have := wS_le L k
  simp [wd]; omega
theorem wd_get {L : List Int} {k i : Nat} (h : i < wE L k - wS L k) : lf (wd L k) i = lf L (wS L k + i) := by
  simp [lf, wd, List.getElem?_take, h]
/-- a Line: its cells, and what they hold -/
def LN (l : Nat) (h : mH) : Prop := hty h l = some (4, 5) ∧ hvr h l 0 = some (l + 1) ∧ hvr h l 1 = some (l + 2) ∧ hvr h l 2 = some (l + 3) ∧ hty h (l + 1) = some (21, 100) ∧ hty h (l + 2) = some (20, 50) ∧ hty h (l + 3) = some (20, 50)
def LC (l : Nat) (h : mH) (L : List Int) : Prop := L.length ≤ 100 ∧ hvi h l 3 = (L.length : Int) ∧ (∀ i, i < L.length → hvi h (l + 1) i = lf L i) ∧ hvi h l 4 = ((wds L).length : Int) ∧ ∀ k, k < (wds L).length → hvi h (l + 2) k = (wS L k : Int) ∧ hvi h (l + 3) k = (wE L k : Int)
def LI (l : Nat) (h : mH) (L : List Int) : Prop := LN l h ∧ LC l h L ∧ ∀ c ∈ L, 0 ≤ c ∧ c < 256
theorem c_start {G : Nat → Nat} {d l : Nat} {h : mH} {L : List Int} {k : Nat} {C : mQ} {X : mX} (H : LI l h L) (hC : C (some (.inl (wS L k : Int))) h) :
    callG (wp G) d 29 0 0 2 [.inr (.inl (some l)), .inl (k : Int)] h C X := by
  obtain ⟨⟨a1, a2, a3, a4, a5, a6, a7⟩, ⟨b1, b2, b3, b4, b5⟩, b6⟩ := H
  have hl := wds_len b1
  refine ⟨C, fun _ _ => False, ?_, fun _ _ q => q, fun _ _ q => q.elim⟩
  simp [wp_eq, wpE, mk_X4_start, mg, mc_X4_start, lget, lset, popN, cats, rcv, entL, kC_s, kC_n, st1, st2, st3, st4, st5, st6, st7, st8, st9, st10, st11, st12, st13, st14, st15, st16, st17, st18, st19, st20, st21, st22, st23, st24, st25, st26, st27, st28, st29, st30, st31, st32, st33, st34, st35, st36, st37, st38, st39, st40, st41, st42, st43, st44, st45, st46, st47, st48, st49, st50, st51, st52, st53, st54, st55, st56, st57, st58, st59, st60, st61, st62, st63, st64, st65, st66, st67, st68, st69, st70, st71, st72, st73, st74, st75, st76, st77, st78, st79, st80, st81, st82, st83, st84, st85, st86, st87, st88, st89, st90, st91, a1, a2, a3, a4, a5, a6, a7, b4]
  by_cases hk : k < (wds L).length
  · have := b5 k hk
    simp [hk, this, hC, show k < 50 by omega, show ¬ ((k : Int) < 0) by omega]
    exact ⟨fun q => by omega, fun q => by omega⟩
  · have := wds_no hk
    simp [this] at hC
    simp [hk, hC, show ¬ ((k : Int) < 0) by omega, show (wds L).length ≤ k by omega]
theorem c_end {G : Nat → Nat} {d l : Nat} {h : mH} {L : List Int} {k : Nat} {C : mQ} {X : mX} (H : LI l h L) (hC : C (some (.inl (wE L k : Int))) h) :
    callG (wp G) d 30 0 0 2 [.inr (.inl (some l)), .inl (k : Int)] h C X := by
  obtain ⟨⟨a1, a2, a3, a4, a5, a6, a7⟩, ⟨b1, b2, b3, b4, b5⟩, b6⟩ := H
  have hl := wds_len b1
  refine ⟨C, fun _ _ => False, ?_, fun _ _ q => q, fun _ _ q => q.elim⟩
  simp [wp_eq, wpE, mk_X4_end, mg, mc_X4_end, lget, lset, popN, cats, rcv, entL, kC_s, kC_n, st1, st2, st3, st4, st5, st6, st7, st8, st9, st10, st11, st12, st13, st14, st15, st16, st17, st18, st19, st20, st21, st22, st23, st24, st25, st26, st27, st28, st29, st30, st31, st32, st33, st34, st35, st36, st37, st38, st39, st40, st41, st42, st43, st44, st45, st46, st47, st48, st49, st50, st51, st52, st53, st54, st55, st56, st57, st58, st59, st60, st61, st62, st63, st64, st65, st66, st67, st68, st69, st70, st71, st72, st73, st74, st75, st76, st77, st78, st79, st80, st81, st82, st83, st84, st85, st86, st87, st88, st89, st90, st91, a1, a2, a3, a4, a5, a6, a7, b4]
  by_cases hk : k < (wds L).length
  · have := b5 k hk
    simp [hk, this, hC, show k < 50 by omega, show ¬ ((k : Int) < 0) by omega]
    exact ⟨fun q => by omega, fun q => by omega⟩
  · have := wds_no hk
    simp [this] at hC
    simp [hk, hC, show ¬ ((k : Int) < 0) by omega, show (wds L).length ≤ k by omega]
theorem cg {G : Nat → Nat} {d kk mc ms mx : Nat} {args : List mV} {h : mH} {C : mQ} {X : mX} (n : Nat) (hd : n < d) (hw : ∀ d, n ≤ d → wp G d kk 0 (entL mx args) [] h mc ms C (fun _ _ => False)) : callG (wp G) d kk mc ms mx args h C X :=
  ⟨C, fun _ _ => False, hw (d - 1) (by omega), fun _ _ q => q, fun _ _ q => q.elim⟩
theorem c_wordLength {G : Nat → Nat} {d l : Nat} {h : mH} {L : List Int} {k : Nat} {C : mQ} {X : mX} (hd : 2 ≤ d) (H : LI l h L) (hC : C (some (.inl ((wd L k).length : Int))) h) :
    callG (wp G) d 31 0 0 2 [.inr (.inl (some l)), .inl (k : Int)] h C X := by
  have hh := H
  obtain ⟨⟨a1, a2, a3, a4, a5, a6, a7⟩, ⟨b1, b2, b3, b4, b5⟩, b6⟩ := hh
  have hl := wS_le L k
  have hw := wd_len L k
  have e : ((wE L k : Int) - (wS L k : Int)) = ((wd L k).length : Int) := by omega
  refine cg 1 (by omega) (fun d hd => ?_)
  have hd0 : (0 < d) = True := eq_true (by omega)
  (repeat' (first | with_reducible assumption | (refine c_end H ?_) | (refine c_start H ?_) | (refine And.intro ?_ ?_) | (with_reducible intro _) | (simp [wp_eq, wpE, mk_X4_wordLength, mg, mc_X4_wordLength, lget, lset, popN, cats, rcv, entL, kC_s, kC_n, st1, st2, st3, st4, st5, st6, st7, st8, st9, st10, st11, st12, st13, st14, st15, st16, st17, st18, st19, st20, st21, st22, st23, st24, st25, st26, st27, st28, st29, st30, st31, st32, st33, st34, st35, st36, st37, st38, st39, st40, st41, st42, st43, st44, st45, st46, st47, st48, st49, st50, st51, st52, st53, st54, st55, st56, st57, st58, st59, st60, st61, st62, st63, st64, st65, st66, st67, st68, st69, st70, st71, st72, st73, st74, st75, st76, st77, st78, st79, st80, st81, st82, st83, st84, st85, st86, st87, st88, st89, st90, st91, a1, hd0, e, inR]))) <;> (try omega)
theorem lf_b {L : List Int} (b : ∀ c ∈ L, 0 ≤ c ∧ c < 256) (i : Nat) : 0 ≤ lf L i ∧ lf L i < 256 := by
  simp only [lf]
  by_cases h : i < L.length
  · rw [List.getElem?_eq_getElem h]; exact b _ (List.getElem_mem h)
  · rw [List.getElem?_eq_none (by omega)]; simp
theorem wd_b {L : List Int} (b : ∀ c ∈ L, 0 ≤ c ∧ c < 256) (k : Nat) : ∀ c ∈ wd L k, 0 ≤ c ∧ c < 256 := fun c hc => b c (List.mem_of_mem_drop (List.mem_of_mem_take hc))
theorem lf_ge {L : List Int} {i : Nat} (h : L.length ≤ i) : lf L i = 0 := by simp [lf, List.getElem?_eq_none h]
theorem c_letter {G : Nat → Nat} {d l : Nat} {h : mH} {L : List Int} {k i : Nat} {C : mQ} {X : mX} (hd : 3 ≤ d) (H : LI l h L) (hC : C (some (.inl (lf (wd L k) i))) h) :
    callG (wp G) d 32 0 0 3 [.inr (.inl (some l)), .inl (k : Int), .inl (i : Int)] h C X := by
  have hh := H
  obtain ⟨⟨a1, a2, a3, a4, a5, a6, a7⟩, ⟨b1, b2, b3, b4, b5⟩, b6⟩ := hh
  have hl := wS_le L k
  have hw := wd_len L k
  have hb := lf_b (wd_b b6 k) i
  refine cg 2 (by omega) (fun d hd => ?_)
  have hd0 : (0 < d) = True := eq_true (by omega)
  (repeat' (first | with_reducible assumption | (refine c_wordLength (by omega) H ?_) | (refine c_start H ?_) | (refine And.intro ?_ ?_) | (with_reducible intro _) | (simp [wp_eq, wpE, mk_X4_letter, mg, mc_X4_letter, lget, lset, popN, cats, rcv, entL, kC_s, kC_n, st1, st2, st3, st4, st5, st6, st7, st8, st9, st10, st11, st12, st13, st14, st15, st16, st17, st18, st19, st20, st21, st22, st23, st24, st25, st26, st27, st28, st29, st30, st31, st32, st33, st34, st35, st36, st37, st38, st39, st40, st41, st42, st43, st44, st45, st46, st47, st48, st49, st50, st51, st52, st53, st54, st55, st56, st57, st58, st59, st60, st61, st62, st63, st64, st65, st66, st67, st68, st69, st70, st71, st72, st73, st74, st75, st76, st77, st78, st79, st80, st81, st82, st83, st84, st85, st86, st87, st88, st89, st90, st91, a1, a2, a5, hd0, inR, show ((wS L k : Int) + (i : Int)).toNat = wS L k + i by omega]))) <;> (try omega)
  · rw [lf_ge (by omega)] at hC; exact hC
  all_goals have hq : hvi h (l + 1) (wS L k + i) = lf (wd L k) i := by rw [wd_get (by omega)]; exact b3 _ (by omega)
  · rw [hq]; omega
  · rw [hq]; omega
  · rw [hq]; exact hC
theorem s_sh : ∀ i, i < 15 → bShr (sLen i : Int) 0 = (sLen i : Int) ∧ sLen i ≤ 6 := by decide +kernel
theorem s_by : ∀ i, i < 15 → ∀ k, k < 7 → bAnd (sBy i k) 255 = sBy i k ∧ 0 ≤ sBy i k ∧ sBy i k < 128 := by decide +kernel
theorem c_coder {G : Nat → Nat} {d i : Nat} {h : mH} {C : mQ} {X : mX} (h1 : 1 ≤ i) (h2 : i ≤ 14) (hC : C (some (.inl 0)) h) : callG (wp G) d 150 0 0 1 [.inr (.inl (some (G i)))] h C X := by
  refine ⟨C, fun _ _ => False, ?_, fun _ _ q => q, fun _ _ q => q.elim⟩
  simp [wp_eq, wpE, mk_J0_coder, mg, mc_J0_coder, lget, lset, popN, cats, rcv, entL, kC_s, kC_n, st1, st2, st3, st4, st5, st6, st7, st8, st9, st10, st11, st12, st13, st14, st15, st16, st17, st18, st19, st20, st21, st22, st23, st24, st25, st26, st27, st28, st29, st30, st31, st32, st33, st34, st35, st36, st37, st38, st39, st40, st41, st42, st43, st44, st45, st46, st47, st48, st49, st50, st51, st52, st53, st54, st55, st56, st57, st58, st59, st60, st61, st62, st63, st64, st65, st66, st67, st68, st69, st70, st71, st72, st73, st74, st75, st76, st77, st78, st79, st80, st81, st82, st83, st84, st85, st86, st87, st88, st89, st90, st91]
  exact ⟨⟨i, ⟨h1, h2, rfl⟩⟩, hC⟩
theorem c_isLatin1 {G : Nat → Nat} {d i : Nat} {h : mH} {C : mQ} {X : mX} (h1 : 1 ≤ i) (h2 : i ≤ 14) (hC : C (some (.inl 1)) h) : callG (wp G) d 151 0 0 1 [.inr (.inl (some (G i)))] h C X := by
  refine ⟨C, fun _ _ => False, ?_, fun _ _ q => q, fun _ _ q => q.elim⟩
  simp [wp_eq, wpE, mk_J0_isLatin1, mg, mc_J0_isLatin1, lget, lset, popN, cats, rcv, entL, kC_s, kC_n, st1, st2, st3, st4, st5, st6, st7, st8, st9, st10, st11, st12, st13, st14, st15, st16, st17, st18, st19, st20, st21, st22, st23, st24, st25, st26, st27, st28, st29, st30, st31, st32, st33, st34, st35, st36, st37, st38, st39, st40, st41, st42, st43, st44, st45, st46, st47, st48, st49, st50, st51, st52, st53, st54, st55, st56, st57, st58, st59, st60, st61, st62, st63, st64, st65, st66, st67, st68, st69, st70, st71, st72, st73, st74, st75, st76, st77, st78, st79, st80, st81, st82, st83, st84, st85, st86, st87, st88, st89, st90, st91]
  exact ⟨⟨i, ⟨h1, h2, rfl⟩⟩, hC⟩
theorem c_slen {G : Nat → Nat} {d i : Nat} {h : mH} {C : mQ} {X : mX} (hd : 2 ≤ d) (h1 : 1 ≤ i) (h2 : i ≤ 14) (hC : C (some (.inl (sLen i : Int))) h) : callG (wp G) d 148 0 0 1 [.inr (.inl (some (G i)))] h C X := by
  have hs := s_sh i (by omega)
  refine cg 1 (by omega) (fun d hd => ?_)
  have hd0 : (0 < d) = True := eq_true (by omega)
  simp [wp_eq, wpE, mk_J0_length, mg, mc_J0_length, lget, lset, popN, cats, rcv, entL, kC_s, kC_n, st1, st2, st3, st4, st5, st6, st7, st8, st9, st10, st11, st12, st13, st14, st15, st16, st17, st18, st19, st20, st21, st22, st23, st24, st25, st26, st27, st28, st29, st30, st31, st32, st33, st34, st35, st36, st37, st38, st39, st40, st41, st42, st43, st44, st45, st46, st47, st48, st49, st50, st51, st52, st53, st54, st55, st56, st57, st58, st59, st60, st61, st62, st63, st64, st65, st66, st67, st68, st69, st70, st71, st72, st73, st74, st75, st76, st77, st78, st79, st80, st81, st82, st83, st84, st85, st86, st87, st88, st89, st90, st91]
  refine ⟨i, ⟨h1, h2, rfl⟩, i, ⟨h1, h2, rfl⟩, by omega, ⟨i, h1, h2, rfl⟩, ?_⟩
  refine c_coder h1 h2 ?_
  simp [wp_eq, wpE, mk_J0_length, mg, mc_J0_length, lget, lset, popN, cats, rcv, entL, kC_s, kC_n, st1, st2, st3, st4, st5, st6, st7, st8, st9, st10, st11, st12, st13, st14, st15, st16, st17, st18, st19, st20, st21, st22, st23, st24, st25, st26, st27, st28, st29, st30, st31, st32, st33, st34, st35, st36, st37, st38, st39, st40, st41, st42, st43, st44, st45, st46, st47, st48, st49, st50, st51, st52, st53, st54, st55, st56, st57, st58, st59, st60, st61, st62, st63, st64, st65, st66, st67, st68, st69, st70, st71, st72, st73, st74, st75, st76, st77, st78, st79, st80, st81, st82, st83, st84, st85, st86, st87, st88, st89, st90, st91, hs, hC]
theorem c_ck3 {G : Nat → Nat} {d : Nat} {h : mH} {C : mQ} {X : mX} {i n : Int} {q : Option Nat} (h1 : 0 ≤ i) (h2 : i < n) (hC : C (some (.inl i)) h) : callG (wp G) d 154 0 0 3 [.inl i, .inl n, .inr (.inl q)] h C X := by
  refine ⟨C, fun _ _ => False, ?_, fun _ _ q => q, fun _ _ q => q.elim⟩
  simp [wp_eq, wpE, mk_J3_checkIndex, mg, mc_J3_checkIndex, lget, lset, popN, cats, rcv, entL, kC_s, kC_n, st1, st2, st3, st4, st5, st6, st7, st8, st9, st10, st11, st12, st13, st14, st15, st16, st17, st18, st19, st20, st21, st22, st23, st24, st25, st26, st27, st28, st29, st30, st31, st32, st33, st34, st35, st36, st37, st38, st39, st40, st41, st42, st43, st44, st45, st46, st47, st48, st49, st50, st51, st52, st53, st54, st55, st56, st57, st58, st59, st60, st61, st62, st63, st64, st65, st66, st67, st68, st69, st70, st71, st72, st73, st74, st75, st76, st77, st78, st79, st80, st81, st82, st83, st84, st85, st86, st87, st88, st89, st90, st91, hC, h2]
  omega
theorem c_ck {G : Nat → Nat} {d : Nat} {h : mH} {C : mQ} {X : mX} {i n : Int} (hd : 2 ≤ d) (h1 : 0 ≤ i) (h2 : i < n) (hC : C none h) : callG (wp G) d 152 0 0 2 [.inl i, .inl n] h C X := by
  refine cg 1 (by omega) (fun d hd => ?_)
  have hd0 : (0 < d) = True := eq_true (by omega)
  (repeat' (first | with_reducible assumption | (refine c_ck3 h1 h2 ?_) | (refine And.intro ?_ ?_) | (with_reducible intro _) | (simp [wp_eq, wpE, mk_J0_checkIndex, mg, mc_J0_checkIndex, lget, lset, popN, cats, rcv, entL, kC_s, kC_n, st1, st2, st3, st4, st5, st6, st7, st8, st9, st10, st11, st12, st13, st14, st15, st16, st17, st18, st19, st20, st21, st22, st23, st24, st25, st26, st27, st28, st29, st30, st31, st32, st33, st34, st35, st36, st37, st38, st39, st40, st41, st42, st43, st44, st45, st46, st47, st48, st49, st50, st51, st52, st53, st54, st55, st56, st57, st58, st59, st60, st61, st62, st63, st64, st65, st66, st67, st68, st69, st70, st71, st72, st73, st74, st75, st76, st77, st78, st79, st80, st81, st82, st83, st84, st85, st86, st87, st88, st89, st90, st91, hd0, hC]))) <;> (try omega)
theorem c_schar1 {G : Nat → Nat} {d i k : Nat} {h : mH} {C : mQ} {X : mX} (hd : 3 ≤ d) (h1 : 1 ≤ i) (h2 : i ≤ 14) (hk : k < sLen i) (hC : C (some (.inl (sBy i k))) h) : callG (wp G) d 153 0 0 2 [.inr (.inl (some (G (100 + i)))), .inl (k : Int)] h C X := by
  have hs := s_sh i (by omega)
  have hb := s_by i (by omega) k (by omega)
  refine cg 2 (by omega) (fun d hd => ?_)
  have hd0 : (0 < d) = True := eq_true (by omega)
  simp [wp_eq, wpE, mk_J1_charAt, mg, mc_J1_charAt, lget, lset, popN, cats, rcv, entL, kC_s, kC_n, st1, st2, st3, st4, st5, st6, st7, st8, st9, st10, st11, st12, st13, st14, st15, st16, st17, st18, st19, st20, st21, st22, st23, st24, st25, st26, st27, st28, st29, st30, st31, st32, st33, st34, st35, st36, st37, st38, st39, st40, st41, st42, st43, st44, st45, st46, st47, st48, st49, st50, st51, st52, st53, st54, st55, st56, st57, st58, st59, st60, st61, st62, st63, st64, st65, st66, st67, st68, st69, st70, st71, st72, st73, st74, st75, st76, st77, st78, st79, st80, st81, st82, st83, st84, st85, st86, st87, st88, st89, st90, st91, hd0]
  refine ⟨i, ⟨h1, h2, rfl⟩, c_ck (by omega) (by omega) (by omega) ?_⟩
  simp [wp_eq, wpE, mk_J1_charAt, mg, mc_J1_charAt, lget, lset, popN, cats, rcv, entL, kC_s, kC_n, st1, st2, st3, st4, st5, st6, st7, st8, st9, st10, st11, st12, st13, st14, st15, st16, st17, st18, st19, st20, st21, st22, st23, st24, st25, st26, st27, st28, st29, st30, st31, st32, st33, st34, st35, st36, st37, st38, st39, st40, st41, st42, st43, st44, st45, st46, st47, st48, st49, st50, st51, st52, st53, st54, st55, st56, st57, st58, st59, st60, st61, st62, st63, st64, st65, st66, st67, st68, st69, st70, st71, st72, st73, st74, st75, st76, st77, st78, st79, st80, st81, st82, st83, st84, st85, st86, st87, st88, st89, st90, st91]
  refine ⟨i, ⟨h1, h2, rfl⟩, by omega, ?_⟩
  rw [hb.1]
  first | exact hC | exact ⟨by omega, by omega, hC⟩ | exact ⟨by omega, hC⟩
theorem c_schar {G : Nat → Nat} {d i k : Nat} {h : mH} {C : mQ} {X : mX} (hd : 4 ≤ d) (h1 : 1 ≤ i) (h2 : i ≤ 14) (hk : k < sLen i) (hC : C (some (.inl (sBy i k))) h) : callG (wp G) d 149 0 0 2 [.inr (.inl (some (G i))), .inl (k : Int)] h C X := by
  have hb := s_by i (by omega) k (by have := s_sh i (by omega); omega)
  refine cg 3 (by omega) (fun d hd => ?_)
  have hd0 : (0 < d) = True := eq_true (by omega)
  simp [wp_eq, wpE, mk_J0_charAt, mg, mc_J0_charAt, lget, lset, popN, cats, rcv, entL, kC_s, kC_n, st1, st2, st3, st4, st5, st6, st7, st8, st9, st10, st11, st12, st13, st14, st15, st16, st17, st18, st19, st20, st21, st22, st23, st24, st25, st26, st27, st28, st29, st30, st31, st32, st33, st34, st35, st36, st37, st38, st39, st40, st41, st42, st43, st44, st45, st46, st47, st48, st49, st50, st51, st52, st53, st54, st55, st56, st57, st58, st59, st60, st61, st62, st63, st64, st65, st66, st67, st68, st69, st70, st71, st72, st73, st74, st75, st76, st77, st78, st79, st80, st81, st82, st83, st84, st85, st86, st87, st88, st89, st90, st91, hd0]
  refine ⟨⟨i, h1, h2, rfl⟩, c_isLatin1 h1 h2 ?_⟩
  simp [wp_eq, wpE, mk_J0_charAt, mg, mc_J0_charAt, lget, lset, popN, cats, rcv, entL, kC_s, kC_n, st1, st2, st3, st4, st5, st6, st7, st8, st9, st10, st11, st12, st13, st14, st15, st16, st17, st18, st19, st20, st21, st22, st23, st24, st25, st26, st27, st28, st29, st30, st31, st32, st33, st34, st35, st36, st37, st38, st39, st40, st41, st42, st43, st44, st45, st46, st47, st48, st49, st50, st51, st52, st53, st54, st55, st56, st57, st58, st59, st60, st61, st62, st63, st64, st65, st66, st67, st68, st69, st70, st71, st72, st73, st74, st75, st76, st77, st78, st79, st80, st81, st82, st83, st84, st85, st86, st87, st88, st89, st90, st91, hd0]
  refine ⟨i, ⟨h1, h2, rfl⟩, c_schar1 (by omega) h1 h2 hk ?_⟩
  simp [wp_eq, wpE, mk_J0_charAt, mg, mc_J0_charAt, lget, lset, popN, cats, rcv, entL, kC_s, kC_n, st1, st2, st3, st4, st5, st6, st7, st8, st9, st10, st11, st12, st13, st14, st15, st16, st17, st18, st19, st20, st21, st22, st23, st24, st25, st26, st27, st28, st29, st30, st31, st32, st33, st34, st35, st36, st37, st38, st39, st40, st41, st42, st43, st44, st45, st46, st47, st48, st49, st50, st51, st52, st53, st54, st55, st56, st57, st58, st59, st60, st61, st62, st63, st64, st65, st66, st67, st68, st69, st70, st71, st72, st73, st74, st75, st76, st77, st78, st79, st80, st81, st82, st83, st84, st85, st86, st87, st88, st89, st90, st91]
  exact ⟨by omega, hC⟩
def sT (i : Nat) : List Int := sTxt.getD (i - 1) []
def b01 (b : Bool) : Int := if b then 1 else 0
theorem is_loop {G : Nat → Nat} {d l i w : Nat} {h : mH} {L : List Int} {C : mQ} {X : mX} (hd : 5 ≤ d) (H : LI l h L) (h1 : 1 ≤ i) (h2 : i ≤ 14) (hw : (wd L w).length = sLen i) (hT : (∀ k, k < sLen i → lf (wd L w) k = sBy i k) → C (some (.inl 1)) h) (hF : ∀ k, k < sLen i → lf (wd L w) k ≠ sBy i k → C (some (.inl 0)) h) :
    ∀ m k, m + k = sLen i → (∀ j, j < k → lf (wd L w) j = sBy i j) → wp G d 33 100016 [some (.inr (.inl (some l))), some (.inl (w : Int)), some (.inr (.inl (some (G i)))), some (.inl (k : Int))] [] h 0 0 C X := by
  have hh := H
  obtain ⟨⟨a1, a2, a3, a4, a5, a6, a7⟩, ⟨b1, b2, b3, b4, b5⟩, b6⟩ := hh
  have hd0 : (0 < d) = True := eq_true (by omega)
  have hs := s_sh i (by omega)
  intro m
  induction m with
  | zero =>
    intro k hk hj
    rw [wp_hd]
    (repeat' (first | with_reducible assumption | (refine c_slen (by omega) h1 h2 ?_) | (refine And.intro ?_ ?_) | (with_reducible intro _) | (simp [wp_eq, wpE, mk_X4_is, mg, mc_X4_is, lget, lset, popN, cats, rcv, entL, kC_s, kC_n, st1, st2, st3, st4, st5, st6, st7, st8, st9, st10, st11, st12, st13, st14, st15, st16, st17, st18, st19, st20, st21, st22, st23, st24, st25, st26, st27, st28, st29, st30, st31, st32, st33, st34, st35, st36, st37, st38, st39, st40, st41, st42, st43, st44, st45, st46, st47, st48, st49, st50, st51, st52, st53, st54, st55, st56, st57, st58, st59, st60, st61, st62, st63, st64, st65, st66, st67, st68, st69, st70, st71, st72, st73, st74, st75, st76, st77, st78, st79, st80, st81, st82, st83, st84, st85, st86, st87, st88, st89, st90, st91, a1, hd0]))) <;> (try omega)
    · exact ⟨i, h1, h2, rfl⟩
    · exact hT (fun j hq => hj j (by omega))
  | succ m ih =>
    intro k hk hj
    have ih' := ih (k + 1) (by omega)
    rw [wp_hd]
    (repeat' (first | with_reducible assumption | (refine c_slen (by omega) h1 h2 ?_) | (refine c_letter (by omega) H ?_) | (refine c_schar (by omega) h1 h2 (by omega) ?_) | (refine ⟨i, h1, h2, rfl⟩) | (refine And.intro ?_ ?_) | (with_reducible intro _) | (simp [wp_eq, wpE, mk_X4_is, mg, mc_X4_is, lget, lset, popN, cats, rcv, entL, kC_s, kC_n, st1, st2, st3, st4, st5, st6, st7, st8, st9, st10, st11, st12, st13, st14, st15, st16, st17, st18, st19, st20, st21, st22, st23, st24, st25, st26, st27, st28, st29, st30, st31, st32, st33, st34, st35, st36, st37, st38, st39, st40, st41, st42, st43, st44, st45, st46, st47, st48, st49, st50, st51, st52, st53, st54, st55, st56, st57, st58, st59, st60, st61, st62, st63, st64, st65, st66, st67, st68, st69, st70, st71, st72, st73, st74, st75, st76, st77, st78, st79, st80, st81, st82, st83, st84, st85, st86, st87, st88, st89, st90, st91, a1, hd0, inR]))) <;> (try omega)
    · rename_i he
      refine ih' fun j hq => ?_
      by_cases hjk : j = k
      · rw [hjk]; exact he
      · exact hj j (by omega)
    · rename_i he
      exact hF k (by omega) he
theorem c_is {G : Nat → Nat} {d l i w : Nat} {h : mH} {L : List Int} {C : mQ} {X : mX} (hd : 6 ≤ d) (H : LI l h L) (h1 : 1 ≤ i) (h2 : i ≤ 14) (hC : C (some (.inl (b01 (wd L w == sT i)))) h) :
    callG (wp G) d 33 0 0 4 [.inr (.inl (some l)), .inl (w : Int), .inr (.inl (some (G i)))] h C X := by
  have hh := H
  obtain ⟨⟨a1, a2, a3, a4, a5, a6, a7⟩, ⟨b1, b2, b3, b4, b5⟩, b6⟩ := hh
  have hl : (sT i).length = sLen i := rfl
  have hg : ∀ k, sBy i k = lf (sT i) k := fun k => by simp [sBy, lf, sT, List.getD_eq_getElem?_getD]
  have hx : ∀ (A B : List Int), A.length = B.length → (∀ k, k < A.length → lf A k = lf B k) → A = B := by
    intro A B hl hh
    apply List.ext_getElem hl
    intro n p q
    have := hh n p
    simpa [lf, p, q] using this
  refine cg 5 (by omega) (fun d hd => ?_)
  have hd0 : (0 < d) = True := eq_true (by omega)
  (repeat' (first | with_reducible assumption | (refine c_slen (by omega) h1 h2 ?_) | (refine c_wordLength (by omega) H ?_) | (refine ⟨i, h1, h2, rfl⟩) | (refine And.intro ?_ ?_) | (with_reducible intro _) | (simp [wp_eq, wpE, mk_X4_is, mg, mc_X4_is, lget, lset, popN, cats, rcv, entL, kC_s, kC_n, st1, st2, st3, st4, st5, st6, st7, st8, st9, st10, st11, st12, st13, st14, st15, st16, st17, st18, st19, st20, st21, st22, st23, st24, st25, st26, st27, st28, st29, st30, st31, st32, st33, st34, st35, st36, st37, st38, st39, st40, st41, st42, st43, st44, st45, st46, st47, st48, st49, st50, st51, st52, st53, st54, st55, st56, st57, st58, st59, st60, st61, st62, st63, st64, st65, st66, st67, st68, st69, st70, st71, st72, st73, st74, st75, st76, st77, st78, st79, st80, st81, st82, st83, st84, st85, st86, st87, st88, st89, st90, st91, a1, hd0, inR]))) <;> (try omega)
  · rename_i he
    have he' : (wd L w).length = sLen i := by omega
    refine is_loop hd H h1 h2 he' (fun q => ?_) (fun k hk q => ?_) (sLen i) 0 rfl (fun j hj => by omega)
    · have : wd L w = sT i := hx _ _ (by omega) (fun k hk => by rw [q k (by omega), hg])
      rw [this] at hC
      simpa [b01] using hC
    · have : ¬ wd L w = sT i := fun e => q (by rw [e, hg])
      simpa [b01, this] using hC
  · rename_i he
    have : ¬ wd L w = sT i := fun e => he (by rw [e, hl])
    simpa [b01, this] using hC
