/-! THE REFERENCE: its cells -/
def rTab : List (Nat × Nat × Nat × Nat) := [(1, 1, 20, 48), (2, 2, 20, 48), (3, 3, 20, 48), (4, 4, 20, 48), (5, 5, 20, 48), (6, 6, 20, 48), (7, 7, 20, 48), (8, 8, 21, 1920), (9, 9, 20, 48), (10, 10, 20, 576), (11, 11, 20, 576), (12, 12, 21, 8064), (14, 13, 21, 100), (17, 14, 20, 52), (18, 15, 20, 52), (19, 16, 21, 1500), (23, 17, 21, 1000), (24, 18, 21, 1000), (28, 19, 20, 60), (29, 20, 20, 60), (30, 21, 20, 60), (31, 22, 20, 60), (32, 23, 20, 130), (33, 24, 20, 60), (34, 25, 20, 60), (42, 26, 21, 1000), (46, 27, 20, 60), (47, 28, 20, 60), (48, 29, 20, 60), (49, 30, 20, 60), (50, 31, 22, 1002)]
def RN (r : Nat) (h : mH) : Prop := hty h r = some (11, 54) ∧ ∀ p ∈ rTab, hvr h r p.1 = some (r + p.2.1) ∧ hty h (r + p.2.1) = some p.2.2
theorem rn_kinds {r : Nat} {h : mH} (H : RN r h) : hvr h r 1 = some (r + 1) ∧ hty h (r + 1) = some (20, 48) := H.2 (1, 1, 20, 48) (by decide)
theorem rn_sizes {r : Nat} {h : mH} (H : RN r h) : hvr h r 2 = some (r + 2) ∧ hty h (r + 2) = some (20, 48) := H.2 (2, 2, 20, 48) (by decide)
theorem rn_days {r : Nat} {h : mH} (H : RN r h) : hvr h r 3 = some (r + 3) ∧ hty h (r + 3) = some (20, 48) := H.2 (3, 3, 20, 48) (by decide)
theorem rn_ties {r : Nat} {h : mH} (H : RN r h) : hvr h r 4 = some (r + 4) ∧ hty h (r + 4) = some (20, 48) := H.2 (4, 4, 20, 48) (by decide)
theorem rn_bitsOf {r : Nat} {h : mH} (H : RN r h) : hvr h r 5 = some (r + 5) ∧ hty h (r + 5) = some (20, 48) := H.2 (5, 5, 20, 48) (by decide)
theorem rn_parents {r : Nat} {h : mH} (H : RN r h) : hvr h r 6 = some (r + 6) ∧ hty h (r + 6) = some (20, 48) := H.2 (6, 6, 20, 48) (by decide)
theorem rn_textSizes {r : Nat} {h : mH} (H : RN r h) : hvr h r 7 = some (r + 7) ∧ hty h (r + 7) = some (20, 48) := H.2 (7, 7, 20, 48) (by decide)
theorem rn_texts {r : Nat} {h : mH} (H : RN r h) : hvr h r 8 = some (r + 8) ∧ hty h (r + 8) = some (21, 1920) := H.2 (8, 8, 21, 1920) (by decide)
theorem rn_many {r : Nat} {h : mH} (H : RN r h) : hvr h r 9 = some (r + 9) ∧ hty h (r + 9) = some (20, 48) := H.2 (9, 9, 20, 48) (by decide)
theorem rn_targets {r : Nat} {h : mH} (H : RN r h) : hvr h r 10 = some (r + 10) ∧ hty h (r + 10) = some (20, 576) := H.2 (10, 10, 20, 576) (by decide)
theorem rn_nameSizes {r : Nat} {h : mH} (H : RN r h) : hvr h r 11 = some (r + 11) ∧ hty h (r + 11) = some (20, 576) := H.2 (11, 11, 20, 576) (by decide)
theorem rn_names {r : Nat} {h : mH} (H : RN r h) : hvr h r 12 = some (r + 12) ∧ hty h (r + 12) = some (21, 8064) := H.2 (12, 12, 21, 8064) (by decide)
theorem rn_line {r : Nat} {h : mH} (H : RN r h) : hvr h r 14 = some (r + 13) ∧ hty h (r + 13) = some (21, 100) := H.2 (14, 13, 21, 100) (by decide)
theorem rn_begins {r : Nat} {h : mH} (H : RN r h) : hvr h r 17 = some (r + 14) ∧ hty h (r + 14) = some (20, 52) := H.2 (17, 14, 20, 52) (by decide)
theorem rn_ends {r : Nat} {h : mH} (H : RN r h) : hvr h r 18 = some (r + 15) ∧ hty h (r + 15) = some (20, 52) := H.2 (18, 15, 20, 52) (by decide)
theorem rn_out {r : Nat} {h : mH} (H : RN r h) : hvr h r 19 = some (r + 16) ∧ hty h (r + 16) = some (21, 1500) := H.2 (19, 16, 21, 1500) (by decide)
theorem rn_way {r : Nat} {h : mH} (H : RN r h) : hvr h r 23 = some (r + 17) ∧ hty h (r + 17) = some (21, 1000) := H.2 (23, 17, 21, 1000) (by decide)
theorem rn_spare {r : Nat} {h : mH} (H : RN r h) : hvr h r 24 = some (r + 18) ∧ hty h (r + 18) = some (21, 1000) := H.2 (24, 18, 21, 1000) (by decide)
theorem rn_partKind {r : Nat} {h : mH} (H : RN r h) : hvr h r 28 = some (r + 19) ∧ hty h (r + 19) = some (20, 60) := H.2 (28, 19, 20, 60) (by decide)
theorem rn_first {r : Nat} {h : mH} (H : RN r h) : hvr h r 29 = some (r + 20) ∧ hty h (r + 20) = some (20, 60) := H.2 (29, 20, 20, 60) (by decide)
theorem rn_second {r : Nat} {h : mH} (H : RN r h) : hvr h r 30 = some (r + 21) ∧ hty h (r + 21) = some (20, 60) := H.2 (30, 21, 20, 60) (by decide)
theorem rn_dayOf {r : Nat} {h : mH} (H : RN r h) : hvr h r 31 = some (r + 22) ∧ hty h (r + 22) = some (20, 60) := H.2 (31, 22, 20, 60) (by decide)
theorem rn_pile {r : Nat} {h : mH} (H : RN r h) : hvr h r 32 = some (r + 23) ∧ hty h (r + 23) = some (20, 130) := H.2 (32, 23, 20, 130) (by decide)
theorem rn_operands {r : Nat} {h : mH} (H : RN r h) : hvr h r 33 = some (r + 24) ∧ hty h (r + 24) = some (20, 60) := H.2 (33, 24, 20, 60) (by decide)
theorem rn_stage {r : Nat} {h : mH} (H : RN r h) : hvr h r 34 = some (r + 25) ∧ hty h (r + 25) = some (20, 60) := H.2 (34, 25, 20, 60) (by decide)
theorem rn_path {r : Nat} {h : mH} (H : RN r h) : hvr h r 42 = some (r + 26) ∧ hty h (r + 26) = some (21, 1000) := H.2 (42, 26, 21, 1000) (by decide)
theorem rn_dirs {r : Nat} {h : mH} (H : RN r h) : hvr h r 46 = some (r + 27) ∧ hty h (r + 27) = some (20, 60) := H.2 (46, 27, 20, 60) (by decide)
theorem rn_lasts {r : Nat} {h : mH} (H : RN r h) : hvr h r 47 = some (r + 28) ∧ hty h (r + 28) = some (20, 60) := H.2 (47, 28, 20, 60) (by decide)
theorem rn_lengths {r : Nat} {h : mH} (H : RN r h) : hvr h r 48 = some (r + 29) ∧ hty h (r + 29) = some (20, 60) := H.2 (48, 29, 20, 60) (by decide)
theorem rn_starts {r : Nat} {h : mH} (H : RN r h) : hvr h r 49 = some (r + 30) ∧ hty h (r + 30) = some (20, 60) := H.2 (49, 30, 20, 60) (by decide)
theorem rn_reach {r : Nat} {h : mH} (H : RN r h) : hvr h r 50 = some (r + 31) ∧ hty h (r + 31) = some (22, 1002) := H.2 (50, 31, 22, 1002) (by decide)
/-- what may have changed: rows by their places, numbers of the object by 100 + their places -/
def sR (r : Nat) : List Nat → Nat → Nat → Prop
  | [], _, _ => False
  | c :: l, a, j => (if c < 100 then a = r + c else a = r ∧ j + 100 = c) ∨ sR r l a j
def chJ (S : Nat → Nat → Prop) (h h' : mH) : Prop := hsz h' = hsz h ∧ (∀ a, hty h' a = hty h a) ∧ (∀ a j, hvr h' a j = hvr h a j) ∧ (∀ a j, hvl h' a j = hvl h a j) ∧ ∀ a j, ¬ S a j → hvi h' a j = hvi h a j
theorem chJ_refl {S : Nat → Nat → Prop} {h : mH} : chJ S h h := ⟨rfl, fun _ => rfl, fun _ _ => rfl, fun _ _ => rfl, fun _ _ _ => rfl⟩
theorem chJ_trans {S : Nat → Nat → Prop} {h1 h2 h3 : mH} (p : chJ S h1 h2) (q : chJ S h2 h3) : chJ S h1 h3 :=
  ⟨q.1.trans p.1, fun a => (q.2.1 a).trans (p.2.1 a), fun a j => (q.2.2.1 a j).trans (p.2.2.1 a j), fun a j => (q.2.2.2.1 a j).trans (p.2.2.2.1 a j), fun a j n => (q.2.2.2.2 a j n).trans (p.2.2.2.2 a j n)⟩
theorem chJ_mono {S T : Nat → Nat → Prop} {h h' : mH} (hS : ∀ a j, S a j → T a j) (p : chJ S h h') : chJ T h h' := ⟨p.1, p.2.1, p.2.2.1, p.2.2.2.1, fun a j n => p.2.2.2.2 a j (fun q => n (hS a j q))⟩
theorem chJ_set {S : Nat → Nat → Prop} {h : mH} {a i : Nat} {v : Int} (hS : S a i) : chJ S h (hsetI h a i v) :=
  ⟨rfl, fun _ => rfl, fun _ _ => rfl, fun _ _ => rfl, fun b j n => by rw [hvi_I]; exact if_neg (fun q => n (by rw [q.1, q.2]; exact hS))⟩
theorem sR_mem {r : Nat} : ∀ {l : List Nat} {a j : Nat}, sR r l a j ↔ ∃ c ∈ l, if c < 100 then a = r + c else a = r ∧ j + 100 = c := by
  intro l
  induction l with
  | nil => intro a j; simp [sR]
  | cons c l ih => intro a j; simp [sR, ih]
theorem sR_sub {r : Nat} {l m : List Nat} (h : ∀ c ∈ l, c ∈ m) : ∀ a j, sR r l a j → sR r m a j := fun a j q => by
  obtain ⟨c, h1, h2⟩ := sR_mem.mp q
  exact sR_mem.mpr ⟨c, h c h1, h2⟩
theorem chJ_sub {r : Nat} {l m : List Nat} {h h' : mH} (p : chJ (sR r l) h h') (hs : ∀ c ∈ l, c ∈ m) : chJ (sR r m) h h' := chJ_mono (sR_sub hs) p
theorem RN_ch {S : Nat → Nat → Prop} {r : Nat} {h h' : mH} (q : chJ S h h') (H : RN r h) : RN r h' := by
  obtain ⟨q1, q2, q3, q4, q5⟩ := q
  refine ⟨by rw [q2]; exact H.1, fun p hp => ?_⟩
  rw [q2, q3]; exact H.2 p hp
/-- a row of r is as before -/
theorem chJ_row {r k : Nat} {l : List Nat} {h h' : mH} (q : chJ (sR r l) h h') (hk : 0 < k ∧ k < 100) (hl : ¬ k ∈ l) (j : Nat) : hvi h' (r + k) j = hvi h (r + k) j := by
  refine q.2.2.2.2 _ _ (fun z => ?_)
  obtain ⟨c, h1, h2⟩ := sR_mem.mp z
  split at h2
  · exact hl (by rw [show k = c by omega]; exact h1)
  · omega
theorem chJ_fld {r j : Nat} {l : List Nat} {h h' : mH} (q : chJ (sR r l) h h') (hl : ¬ (j + 100) ∈ l) (h0 : ¬ 0 ∈ l) : hvi h' r j = hvi h r j := by
  refine q.2.2.2.2 _ _ (fun z => ?_)
  obtain ⟨c, h1, h2⟩ := sR_mem.mp z
  split at h2
  · exact h0 (by rw [show 0 = c by omega]; exact h1)
  · exact hl (by rw [h2.2]; exact h1)
/-! THE LINE of the reference -/
def RP (r : Nat) (h : mH) (A : List Int) : Prop := hvi h r 15 = (A.length : Int) ∧ ∀ i, i < A.length → i < 100 → hvi h (r + 13) i = lf A i
theorem shr_key (x : BitVec 32) (n : Nat) (hn : n ≤ 24) : (x.sshiftRight n) &&& 255#32 = (x >>> n) &&& 255#32 := by
  apply BitVec.eq_of_getLsbD_eq
  intro i hi
  have hb : ∀ i, i < 32 → 8 ≤ i → (255#32).getLsbD i = false := by decide
  by_cases h8 : i < 8
  · simp only [BitVec.getLsbD_and, BitVec.getLsbD_sshiftRight, BitVec.getLsbD_ushiftRight]
    simp [show n + i < 32 by omega, show ¬ (32 ≤ i) by omega]
  · simp only [BitVec.getLsbD_and, hb i hi (by omega), Bool.and_false]
theorem shr_byt (four : Int) (s : Nat) (hs : s = 0 ∨ s = 8 ∨ s = 16 ∨ s = 24) : bAnd (bShr four (s : Int)) 255 = byt four s := by
  have key : ∀ x : Int32, (x >>> (Int32.ofInt (s : Int) &&& 31)) &&& 255 = ((x.toUInt32 >>> ((Int32.ofInt (s : Int)).toUInt32 &&& Int32.toUInt32 31)).toInt32) &&& 255 := by
    intro x
    have k := shr_key x.toBitVec s (by omega)
    apply Int32.toBitVec_inj.mp
    rcases hs with rfl | rfl | rfl | rfl
    all_goals exact k
  unfold byt bAnd bShr bUshr
  rw [Int32.ofInt_toInt, Int32.ofInt_toInt]
  exact congrArg Int32.toInt (key (Int32.ofInt four))
theorem RP_push {r : Nat} {h : mH} {A : List Int} {c : Int} (H : RP r h A) : RP r (hsetI (if A.length < 100 then hsetI h (r + 13) A.length c else h) r 15 ((A.length : Int) + 1)) (A ++ [c]) := by
  obtain ⟨h1, h2⟩ := H
  refine ⟨by simp [hvi_I], fun i hi hj => ?_⟩
  simp at hi
  by_cases he : i = A.length
  · rw [if_pos (by omega), he, lf_app_r (Nat.le_refl _)]; simp [hvi_I, lf]
  · rw [lf_app_l (by omega), ← h2 i (by omega) hj]
    split <;> simp [hvi_I, he]
theorem r_put {G : Nat → Nat} {d r s : Nat} {h : mH} {C : mQ} {X : mX} {A : List Int} {four : Int} (HR : RN r h) (hs : s = 0 ∨ s = 8 ∨ s = 16 ∨ s = 24) (H : RP r h A) (hA : A.length ≤ 1000) (hC : ∀ h', RP r h' (A ++ (if byt four s = 0 then [] else [byt four s])) → chJ (sR r [13, 115]) h h' → C none h') :
    callG (wp G) d 93 0 0 4 [.inr (.inl (some r)), .inl four, .inl (s : Int)] h C X := by
  have R0 := HR.1; have R_line := rn_line HR
  have hb := bAnd_255 (bUshr four (s : Int))
  have e2 := shr_byt four s hs
  have h1 := H.1
  have hp := RP_push (c := byt four s) H
  change 0 ≤ byt four s ∧ byt four s < 256 at hb
  generalize byt four s = z at *
  refine ⟨C, fun _ _ => False, ?_, fun _ _ q => q, fun _ _ q => q.elim⟩
  by_cases hz : z = 0
  · rw [if_pos hz] at hC
    have hz2 := hC h (by simpa using H) chJ_refl
    (repeat' (first | with_reducible assumption | (refine And.intro ?_ ?_) | (with_reducible intro _) | (simp [wp_eq, wpE, mk_X11_put, mg, mc_X11_put, lget, lset, popN, cats, rcv, entL, isArr, kC_s, kC_n, st1, st2, st3, st4, st5, st6, st7, st8, st9, st10, st11, st12, st13, st14, st15, st16, st17, st18, st19, st20, st21, st22, st23, st24, st25, st26, st27, st28, st29, st30, st31, st32, st33, st34, st35, st36, st37, st38, st39, st40, st41, st42, st43, st44, st45, st46, st47, st48, st49, st50, st51, st52, st53, st54, st55, st56, st57, st58, st59, st60, st61, st62, st63, st64, st65, st66, st67, st68, st69, st70, st71, st72, st73, st74, st75, st76, st77, st78, st79, st80, st81, st82, st83, st84, st85, st86, st87, st88, st89, st90, st91, R0, R_line, e2, hz]))) <;> (try (first | omega | exact hz))
  · rw [if_neg hz] at hC
    have hz0 : 0 < z := by omega
    by_cases hl : A.length < 100
    · rw [if_pos hl] at hp
      have hz2 := hC _ hp (chJ_trans (chJ_set (by simp [sR])) (chJ_set (by simp [sR])))
      (repeat' (first | with_reducible assumption | (refine And.intro ?_ ?_) | (with_reducible intro _) | (simp [wp_eq, wpE, mk_X11_put, mg, mc_X11_put, lget, lset, popN, cats, rcv, entL, isArr, kC_s, kC_n, st1, st2, st3, st4, st5, st6, st7, st8, st9, st10, st11, st12, st13, st14, st15, st16, st17, st18, st19, st20, st21, st22, st23, st24, st25, st26, st27, st28, st29, st30, st31, st32, st33, st34, st35, st36, st37, st38, st39, st40, st41, st42, st43, st44, st45, st46, st47, st48, st49, st50, st51, st52, st53, st54, st55, st56, st57, st58, st59, st60, st61, st62, st63, st64, st65, st66, st67, st68, st69, st70, st71, st72, st73, st74, st75, st76, st77, st78, st79, st80, st81, st82, st83, st84, st85, st86, st87, st88, st89, st90, st91, R0, R_line, e2, h1, hz0, hl, inR, hty_I, hvi_I, hvr_I, hvl_I, hsz_I, hty_R, hvi_R, hvr_R, hvl_R, hsz_R, hty_L, hvi_L, hvr_L, hvl_L, hsz_L, hty_P, hvi_P, hvr_P, hvl_P, hsz_P, hty_C, hvi_C, hvr_C, hvl_C, hsz_C]))) <;> (try (first | omega | exact hz))
    · rw [if_neg hl] at hp
      have hz2 := hC _ hp (chJ_set (by simp [sR]))
      (repeat' (first | with_reducible assumption | (refine And.intro ?_ ?_) | (with_reducible intro _) | (simp [wp_eq, wpE, mk_X11_put, mg, mc_X11_put, lget, lset, popN, cats, rcv, entL, isArr, kC_s, kC_n, st1, st2, st3, st4, st5, st6, st7, st8, st9, st10, st11, st12, st13, st14, st15, st16, st17, st18, st19, st20, st21, st22, st23, st24, st25, st26, st27, st28, st29, st30, st31, st32, st33, st34, st35, st36, st37, st38, st39, st40, st41, st42, st43, st44, st45, st46, st47, st48, st49, st50, st51, st52, st53, st54, st55, st56, st57, st58, st59, st60, st61, st62, st63, st64, st65, st66, st67, st68, st69, st70, st71, st72, st73, st74, st75, st76, st77, st78, st79, st80, st81, st82, st83, st84, st85, st86, st87, st88, st89, st90, st91, R0, R_line, e2, h1, hz0, hl, inR, hty_I, hvi_I, hvr_I, hvl_I, hsz_I, hty_R, hvi_R, hvr_R, hvl_R, hsz_R, hty_L, hvi_L, hvr_L, hvl_L, hsz_L, hty_P, hvi_P, hvr_P, hvl_P, hsz_P, hty_C, hvi_C, hvr_C, hvl_C, hsz_C]))) <;> (try (first | omega | exact hz))
theorem type_in {G : Nat → Nat} {d r : Nat} {C : mQ} {X : mX} {four : Int} {x1 x2 x3 x4 x5 x6 : Option mV} {k : Nat} (hk : k < 5) (hd : 1 ≤ d) : ∀ (m : Nat) (h : mH) (A : List Int), m ≤ 4 → RN r h → RP r h A → A.length + m ≤ 900 →
    (∀ h' x9, RP r h' (A ++ chz four m) → chJ (sR r [13, 115]) h h' → wp G d 94 100009 [some (.inr (.inl (some r))), x1, x2, x3, x4, x5, x6, some (.inl ((k + 1 : Nat) : Int)), some (.inl four), x9] [] h' 0 0 C X) →
    wp G d 94 100063 [some (.inr (.inl (some r))), x1, x2, x3, x4, x5, x6, some (.inl (k : Int)), some (.inl four), some (.inl (8 * (m : Int) - 8))] [] h 0 0 C X := by
  have hd0 : (0 < d) = True := eq_true (by omega)
  intro m
  induction m with
  | zero =>
    intro h A hm HR H hA hC
    rw [wp_hd]
    have hz := hC h (some (.inl (-8))) (by simpa [chz] using H) chJ_refl
    (repeat' (first | with_reducible assumption | (refine And.intro ?_ ?_) | (with_reducible intro _) | (simp [wp_eq, wpE, mk_X11_type, mg, mc_X11_type, lget, lset, popN, cats, rcv, entL, isArr, kC_s, kC_n, st1, st2, st3, st4, st5, st6, st7, st8, st9, st10, st11, st12, st13, st14, st15, st16, st17, st18, st19, st20, st21, st22, st23, st24, st25, st26, st27, st28, st29, st30, st31, st32, st33, st34, st35, st36, st37, st38, st39, st40, st41, st42, st43, st44, st45, st46, st47, st48, st49, st50, st51, st52, st53, st54, st55, st56, st57, st58, st59, st60, st61, st62, st63, st64, st65, st66, st67, st68, st69, st70, st71, st72, st73, st74, st75, st76, st77, st78, st79, st80, st81, st82, st83, st84, st85, st86, st87, st88, st89, st90, st91, inR]))) <;> (try (first | omega | exact hz))
  | succ m ih =>
    intro h A hm HR H hA hC
    have R0 := HR.1
    have e1 : (8 * ((m + 1 : Nat) : Int) - 8) = ((8 * m : Nat) : Int) := by omega
    have e3 : ((8 * m : Nat) : Int) - 8 = 8 * (m : Int) - 8 := by omega
    rw [e1, wp_hd]
    simp [wp_eq, wpE, mk_X11_type, mg, mc_X11_type, lget, lset, popN, cats, rcv, entL, isArr, kC_s, kC_n, st1, st2, st3, st4, st5, st6, st7, st8, st9, st10, st11, st12, st13, st14, st15, st16, st17, st18, st19, st20, st21, st22, st23, st24, st25, st26, st27, st28, st29, st30, st31, st32, st33, st34, st35, st36, st37, st38, st39, st40, st41, st42, st43, st44, st45, st46, st47, st48, st49, st50, st51, st52, st53, st54, st55, st56, st57, st58, st59, st60, st61, st62, st63, st64, st65, st66, st67, st68, st69, st70, st71, st72, st73, st74, st75, st76, st77, st78, st79, st80, st81, st82, st83, st84, st85, st86, st87, st88, st89, st90, st91, -Int.natCast_mul, hd0, R0]
    refine ⟨fun q => absurd q (by omega), r_put (s := 8 * m) HR (by omega) H (by omega) (fun h' q1 q2 => ?_)⟩
    simp only [chz] at hC
    have hl : (A ++ (if byt four (8 * m) = 0 then [] else [byt four (8 * m)])).length ≤ A.length + 1 := by split <;> simp
    have hz := ih h' _ (by omega) (RN_ch q2 HR) q1 (by omega) (fun h'' x9 p1 p2 => hC h'' x9 (by rw [← List.append_assoc]; exact p1) (chJ_trans q2 p2))
    (repeat' (first | with_reducible assumption | (refine And.intro ?_ ?_) | (with_reducible intro _) | (simp [wp_eq, wpE, mk_X11_type, mg, mc_X11_type, lget, lset, popN, cats, rcv, entL, isArr, kC_s, kC_n, st1, st2, st3, st4, st5, st6, st7, st8, st9, st10, st11, st12, st13, st14, st15, st16, st17, st18, st19, st20, st21, st22, st23, st24, st25, st26, st27, st28, st29, st30, st31, st32, st33, st34, st35, st36, st37, st38, st39, st40, st41, st42, st43, st44, st45, st46, st47, st48, st49, st50, st51, st52, st53, st54, st55, st56, st57, st58, st59, st60, st61, st62, st63, st64, st65, st66, st67, st68, st69, st70, st71, st72, st73, st74, st75, st76, st77, st78, st79, st80, st81, st82, st83, st84, st85, st86, st87, st88, st89, st90, st91, -Int.natCast_mul, e3, inR]))) <;> (try (first | omega | exact hz))
theorem r_refused {G : Nat → Nat} {d r : Nat} {h : mH} {C : mQ} {X : mX} {z : Int} (HR : RN r h) (hC : C (some (.inl (if 0 < z then 1 else 0))) (hsetI h r 0 z)) : callG (wp G) d 92 0 0 2 [.inr (.inl (some r)), .inl z] h C X := by
  have R0 := HR.1
  refine ⟨C, fun _ _ => False, ?_, fun _ _ q => q, fun _ _ q => q.elim⟩
  by_cases hz : 0 < z
  · rw [if_pos hz] at hC
    (repeat' (first | with_reducible assumption | (refine And.intro ?_ ?_) | (with_reducible intro _) | (simp [wp_eq, wpE, mk_X11_refused, mg, mc_X11_refused, lget, lset, popN, cats, rcv, entL, isArr, kC_s, kC_n, st1, st2, st3, st4, st5, st6, st7, st8, st9, st10, st11, st12, st13, st14, st15, st16, st17, st18, st19, st20, st21, st22, st23, st24, st25, st26, st27, st28, st29, st30, st31, st32, st33, st34, st35, st36, st37, st38, st39, st40, st41, st42, st43, st44, st45, st46, st47, st48, st49, st50, st51, st52, st53, st54, st55, st56, st57, st58, st59, st60, st61, st62, st63, st64, st65, st66, st67, st68, st69, st70, st71, st72, st73, st74, st75, st76, st77, st78, st79, st80, st81, st82, st83, st84, st85, st86, st87, st88, st89, st90, st91, R0, hz]))) <;> (try (first | omega | exact hz))
  · rw [if_neg hz] at hC
    (repeat' (first | with_reducible assumption | (refine And.intro ?_ ?_) | (with_reducible intro _) | (simp [wp_eq, wpE, mk_X11_refused, mg, mc_X11_refused, lget, lset, popN, cats, rcv, entL, isArr, kC_s, kC_n, st1, st2, st3, st4, st5, st6, st7, st8, st9, st10, st11, st12, st13, st14, st15, st16, st17, st18, st19, st20, st21, st22, st23, st24, st25, st26, st27, st28, st29, st30, st31, st32, st33, st34, st35, st36, st37, st38, st39, st40, st41, st42, st43, st44, st45, st46, st47, st48, st49, st50, st51, st52, st53, st54, st55, st56, st57, st58, st59, st60, st61, st62, st63, st64, st65, st66, st67, st68, st69, st70, st71, st72, st73, st74, st75, st76, st77, st78, st79, st80, st81, st82, st83, st84, st85, st86, st87, st88, st89, st90, st91, R0, hz]))) <;> (try (first | omega | exact hz))
theorem r_thrown {G : Nat → Nat} {d r : Nat} {h : mH} {C : mQ} {X : mX} (HR : RN r h) (hC : C (some (.inl (hvi h r 0))) h) : callG (wp G) d 91 0 0 1 [.inr (.inl (some r))] h C X := by
  have R0 := HR.1
  refine ⟨C, fun _ _ => False, ?_, fun _ _ q => q, fun _ _ q => q.elim⟩
  (repeat' (first | with_reducible assumption | (refine And.intro ?_ ?_) | (with_reducible intro _) | (simp [wp_eq, wpE, mk_X11_thrown, mg, mc_X11_thrown, lget, lset, popN, cats, rcv, entL, isArr, kC_s, kC_n, st1, st2, st3, st4, st5, st6, st7, st8, st9, st10, st11, st12, st13, st14, st15, st16, st17, st18, st19, st20, st21, st22, st23, st24, st25, st26, st27, st28, st29, st30, st31, st32, st33, st34, st35, st36, st37, st38, st39, st40, st41, st42, st43, st44, st45, st46, st47, st48, st49, st50, st51, st52, st53, st54, st55, st56, st57, st58, st59, st60, st61, st62, st63, st64, st65, st66, st67, st68, st69, st70, st71, st72, st73, st74, st75, st76, st77, st78, st79, st80, st81, st82, st83, st84, st85, st86, st87, st88, st89, st90, st91, R0]))) <;> (try (first | omega | exact hz))
def tyA (a b c e f : Int) : List Int := chz a 4 ++ chz b 4 ++ chz c 4 ++ chz e 4 ++ chz f 4
theorem tyA_len (a b c e f : Int) : (tyA a b c e f).length ≤ 20 := by
  have h1 := chz_len a 4; have h2 := chz_len b 4; have h3 := chz_len c 4; have h4 := chz_len e 4; have h5 := chz_len f 4
  simp [tyA]; omega
theorem tyA_b (a b c e f : Int) : bd (tyA a b c e f) := by
  intro x hx
  simp only [tyA, List.mem_append] at hx
  rcases hx with (((h | h) | h) | h) | h
  all_goals exact chz_b _ _ _ h
theorem RP_pre {r : Nat} {h : mH} {L A : List Int} {v : Int} (H : RP r h (L ++ A)) (hl : L.length ≤ 100) : RP r (hsetI h r 15 (L.length : Int)) L := by
  refine ⟨by simp [hvi_I], fun i hi hj => ?_⟩
  have := H.2 i (by simp; omega) hj
  rw [lf_app_l hi] at this
  simp [hvi_I, this]
theorem r_type {G : Nat → Nat} {d r : Nat} {h : mH} {C : mQ} {X : mX} {a b c e f : Int} {L : List Int} (hd : 2 ≤ d) (HR : RN r h) (H : RP r h L) (hl : L.length ≤ 100)
    (hC1 : (L ++ tyA a b c e f).length ≤ 100 → ∀ h', RP r h' (L ++ tyA a b c e f) → hvi h' r 0 = 0 → chJ (sR r [13, 100, 115]) h h' → C (some (.inl ((L ++ tyA a b c e f).length : Int))) h')
    (hC2 : ¬ (L ++ tyA a b c e f).length ≤ 100 → ∀ h', RP r h' L → hvi h' r 0 = 1 → chJ (sR r [13, 100, 115]) h h' → C (some (.inl 0)) h') :
    callG (wp G) d 94 0 0 10 [.inr (.inl (some r)), .inl a, .inl b, .inl c, .inl e, .inl f] h C X := by
  have R0 := HR.1
  have h1 := H.1
  have l1 := chz_len a 4; have l2 := chz_len b 4; have l3 := chz_len c 4; have l4 := chz_len e 4; have l5 := chz_len f 4
  refine cg 1 (by omega) (fun d hd => ?_)
  have hd0 : (0 < d) = True := eq_true (by omega)
  simp [wp_eq, wpE, mk_X11_type, mg, mc_X11_type, lget, lset, popN, cats, rcv, entL, isArr, kC_s, kC_n, st1, st2, st3, st4, st5, st6, st7, st8, st9, st10, st11, st12, st13, st14, st15, st16, st17, st18, st19, st20, st21, st22, st23, st24, st25, st26, st27, st28, st29, st30, st31, st32, st33, st34, st35, st36, st37, st38, st39, st40, st41, st42, st43, st44, st45, st46, st47, st48, st49, st50, st51, st52, st53, st54, st55, st56, st57, st58, st59, st60, st61, st62, st63, st64, st65, st66, st67, st68, st69, st70, st71, st72, st73, st74, st75, st76, st77, st78, st79, st80, st81, st82, st83, st84, st85, st86, st87, st88, st89, st90, st91, R0, h1]
  rw [wp_hd]
  simp [wp_eq, wpE, mk_X11_type, mg, mc_X11_type, lget, lset, popN, cats, rcv, entL, isArr, kC_s, kC_n, st1, st2, st3, st4, st5, st6, st7, st8, st9, st10, st11, st12, st13, st14, st15, st16, st17, st18, st19, st20, st21, st22, st23, st24, st25, st26, st27, st28, st29, st30, st31, st32, st33, st34, st35, st36, st37, st38, st39, st40, st41, st42, st43, st44, st45, st46, st47, st48, st49, st50, st51, st52, st53, st54, st55, st56, st57, st58, st59, st60, st61, st62, st63, st64, st65, st66, st67, st68, st69, st70, st71, st72, st73, st74, st75, st76, st77, st78, st79, st80, st81, st82, st83, st84, st85, st86, st87, st88, st89, st90, st91]
  refine type_in (k := 0) (by omega) (by omega) 4 h L (by omega) HR H (by omega) (fun h1 x1 p1 q1 => ?_)
  have HR1 := RN_ch q1 HR
  rw [wp_hd]
  simp [wp_eq, wpE, mk_X11_type, mg, mc_X11_type, lget, lset, popN, cats, rcv, entL, isArr, kC_s, kC_n, st1, st2, st3, st4, st5, st6, st7, st8, st9, st10, st11, st12, st13, st14, st15, st16, st17, st18, st19, st20, st21, st22, st23, st24, st25, st26, st27, st28, st29, st30, st31, st32, st33, st34, st35, st36, st37, st38, st39, st40, st41, st42, st43, st44, st45, st46, st47, st48, st49, st50, st51, st52, st53, st54, st55, st56, st57, st58, st59, st60, st61, st62, st63, st64, st65, st66, st67, st68, st69, st70, st71, st72, st73, st74, st75, st76, st77, st78, st79, st80, st81, st82, st83, st84, st85, st86, st87, st88, st89, st90, st91]
  refine type_in (k := 1) (by omega) (by omega) 4 h1 _ (by omega) HR1 p1 (by simp; omega) (fun h2 x2 p2 q2 => ?_)
  have HR2 := RN_ch q2 HR1
  rw [wp_hd]
  simp [wp_eq, wpE, mk_X11_type, mg, mc_X11_type, lget, lset, popN, cats, rcv, entL, isArr, kC_s, kC_n, st1, st2, st3, st4, st5, st6, st7, st8, st9, st10, st11, st12, st13, st14, st15, st16, st17, st18, st19, st20, st21, st22, st23, st24, st25, st26, st27, st28, st29, st30, st31, st32, st33, st34, st35, st36, st37, st38, st39, st40, st41, st42, st43, st44, st45, st46, st47, st48, st49, st50, st51, st52, st53, st54, st55, st56, st57, st58, st59, st60, st61, st62, st63, st64, st65, st66, st67, st68, st69, st70, st71, st72, st73, st74, st75, st76, st77, st78, st79, st80, st81, st82, st83, st84, st85, st86, st87, st88, st89, st90, st91]
  refine type_in (k := 2) (by omega) (by omega) 4 h2 _ (by omega) HR2 p2 (by simp; omega) (fun h3 x3 p3 q3 => ?_)
  have HR3 := RN_ch q3 HR2
  rw [wp_hd]
  simp [wp_eq, wpE, mk_X11_type, mg, mc_X11_type, lget, lset, popN, cats, rcv, entL, isArr, kC_s, kC_n, st1, st2, st3, st4, st5, st6, st7, st8, st9, st10, st11, st12, st13, st14, st15, st16, st17, st18, st19, st20, st21, st22, st23, st24, st25, st26, st27, st28, st29, st30, st31, st32, st33, st34, st35, st36, st37, st38, st39, st40, st41, st42, st43, st44, st45, st46, st47, st48, st49, st50, st51, st52, st53, st54, st55, st56, st57, st58, st59, st60, st61, st62, st63, st64, st65, st66, st67, st68, st69, st70, st71, st72, st73, st74, st75, st76, st77, st78, st79, st80, st81, st82, st83, st84, st85, st86, st87, st88, st89, st90, st91]
  refine type_in (k := 3) (by omega) (by omega) 4 h3 _ (by omega) HR3 p3 (by simp; omega) (fun h4 x4 p4 q4 => ?_)
  have HR4 := RN_ch q4 HR3
  rw [wp_hd]
  simp [wp_eq, wpE, mk_X11_type, mg, mc_X11_type, lget, lset, popN, cats, rcv, entL, isArr, kC_s, kC_n, st1, st2, st3, st4, st5, st6, st7, st8, st9, st10, st11, st12, st13, st14, st15, st16, st17, st18, st19, st20, st21, st22, st23, st24, st25, st26, st27, st28, st29, st30, st31, st32, st33, st34, st35, st36, st37, st38, st39, st40, st41, st42, st43, st44, st45, st46, st47, st48, st49, st50, st51, st52, st53, st54, st55, st56, st57, st58, st59, st60, st61, st62, st63, st64, st65, st66, st67, st68, st69, st70, st71, st72, st73, st74, st75, st76, st77, st78, st79, st80, st81, st82, st83, st84, st85, st86, st87, st88, st89, st90, st91]
  refine type_in (k := 4) (by omega) (by omega) 4 h4 _ (by omega) HR4 p4 (by simp; omega) (fun h5 x5 p5 q5 => ?_)
  have HR5 := RN_ch q5 HR4
  have R05 := HR5.1
  have pA : L ++ chz a 4 ++ chz b 4 ++ chz c 4 ++ chz e 4 ++ chz f 4 = L ++ tyA a b c e f := by simp [tyA]
  rw [pA] at p5
  have hq : chJ (sR r [13, 100, 115]) h h5 := chJ_sub (chJ_trans q1 (chJ_trans q2 (chJ_trans q3 (chJ_trans q4 q5)))) (by simp)
  have p51 := p5.1
  have hML : ∀ i, i < L.length → lf (L ++ tyA a b c e f) i = lf L i := fun i hi => lf_app_l hi
  have hMl : L.length ≤ (L ++ tyA a b c e f).length := by simp
  generalize L ++ tyA a b c e f = M at *
  rw [wp_hd]
  by_cases hM : M.length ≤ 100
  · have hz := hC1 hM (hsetI h5 r 0 0) ⟨by simp [hty_I, hvi_I, hvr_I, hvl_I, hsz_I, hty_R, hvi_R, hvr_R, hvl_R, hsz_R, hty_L, hvi_L, hvr_L, hvl_L, hsz_L, hty_P, hvi_P, hvr_P, hvl_P, hsz_P, hty_C, hvi_C, hvr_C, hvl_C, hsz_C, p51], fun i hi hj => by simp [hty_I, hvi_I, hvr_I, hvl_I, hsz_I, hty_R, hvi_R, hvr_R, hvl_R, hsz_R, hty_L, hvi_L, hvr_L, hvl_L, hsz_L, hty_P, hvi_P, hvr_P, hvl_P, hsz_P, hty_C, hvi_C, hvr_C, hvl_C, hsz_C]; exact p5.2 i hi hj⟩ (by simp [hty_I, hvi_I, hvr_I, hvl_I, hsz_I, hty_R, hvi_R, hvr_R, hvl_R, hsz_R, hty_L, hvi_L, hvr_L, hvl_L, hsz_L, hty_P, hvi_P, hvr_P, hvl_P, hsz_P, hty_C, hvi_C, hvr_C, hvl_C, hsz_C]) (chJ_trans hq (chJ_set (by simp [sR])))
    (repeat' (first | with_reducible assumption | (refine r_refused HR5 ?_) | (refine And.intro ?_ ?_) | (with_reducible intro _) | (simp [wp_eq, wpE, mk_X11_type, mg, mc_X11_type, lget, lset, popN, cats, rcv, entL, isArr, kC_s, kC_n, st1, st2, st3, st4, st5, st6, st7, st8, st9, st10, st11, st12, st13, st14, st15, st16, st17, st18, st19, st20, st21, st22, st23, st24, st25, st26, st27, st28, st29, st30, st31, st32, st33, st34, st35, st36, st37, st38, st39, st40, st41, st42, st43, st44, st45, st46, st47, st48, st49, st50, st51, st52, st53, st54, st55, st56, st57, st58, st59, st60, st61, st62, st63, st64, st65, st66, st67, st68, st69, st70, st71, st72, st73, st74, st75, st76, st77, st78, st79, st80, st81, st82, st83, st84, st85, st86, st87, st88, st89, st90, st91, R05, p51, hd0, hM, hty_I, hvi_I, hvr_I, hvl_I, hsz_I, hty_R, hvi_R, hvr_R, hvl_R, hsz_R, hty_L, hvi_L, hvr_L, hvl_L, hsz_L, hty_P, hvi_P, hvr_P, hvl_P, hsz_P, hty_C, hvi_C, hvr_C, hvl_C, hsz_C]))) <;> (try (first | omega | exact hz))
  · have hz := hC2 hM (hsetI (hsetI h5 r 0 1) r 15 (L.length : Int)) ⟨by simp [hty_I, hvi_I, hvr_I, hvl_I, hsz_I, hty_R, hvi_R, hvr_R, hvl_R, hsz_R, hty_L, hvi_L, hvr_L, hvl_L, hsz_L, hty_P, hvi_P, hvr_P, hvl_P, hsz_P, hty_C, hvi_C, hvr_C, hvl_C, hsz_C], fun i hi hj => by rw [← hML i hi]; simp [hty_I, hvi_I, hvr_I, hvl_I, hsz_I, hty_R, hvi_R, hvr_R, hvl_R, hsz_R, hty_L, hvi_L, hvr_L, hvl_L, hsz_L, hty_P, hvi_P, hvr_P, hvl_P, hsz_P, hty_C, hvi_C, hvr_C, hvl_C, hsz_C]; exact p5.2 i (by omega) hj⟩ (by simp [hty_I, hvi_I, hvr_I, hvl_I, hsz_I, hty_R, hvi_R, hvr_R, hvl_R, hsz_R, hty_L, hvi_L, hvr_L, hvl_L, hsz_L, hty_P, hvi_P, hvr_P, hvl_P, hsz_P, hty_C, hvi_C, hvr_C, hvl_C, hsz_C]) (chJ_trans (chJ_trans hq (chJ_set (by simp [sR]))) (chJ_set (by simp [sR])))
    (repeat' (first | with_reducible assumption | (refine r_refused HR5 ?_) | (refine And.intro ?_ ?_) | (with_reducible intro _) | (simp [wp_eq, wpE, mk_X11_type, mg, mc_X11_type, lget, lset, popN, cats, rcv, entL, isArr, kC_s, kC_n, st1, st2, st3, st4, st5, st6, st7, st8, st9, st10, st11, st12, st13, st14, st15, st16, st17, st18, st19, st20, st21, st22, st23, st24, st25, st26, st27, st28, st29, st30, st31, st32, st33, st34, st35, st36, st37, st38, st39, st40, st41, st42, st43, st44, st45, st46, st47, st48, st49, st50, st51, st52, st53, st54, st55, st56, st57, st58, st59, st60, st61, st62, st63, st64, st65, st66, st67, st68, st69, st70, st71, st72, st73, st74, st75, st76, st77, st78, st79, st80, st81, st82, st83, st84, st85, st86, st87, st88, st89, st90, st91, R05, p51, hd0, hM, hty_I, hvi_I, hvr_I, hvl_I, hsz_I, hty_R, hvi_R, hvr_R, hvl_R, hsz_R, hty_L, hvi_L, hvr_L, hvl_L, hsz_L, hty_P, hvi_P, hvr_P, hvl_P, hsz_P, hty_C, hvi_C, hvr_C, hvl_C, hsz_C]))) <;> (try (first | omega | exact hz))
theorem r_erase {G : Nat → Nat} {d r : Nat} {h : mH} {C : mQ} {X : mX} {L : List Int} (HR : RN r h) (H : RP r h L) (hC : ∀ h', RP r h' [] → hvi h' r 0 = 0 → chJ (sR r [100, 115]) h h' → C (some (.inl (L.length : Int))) h') :
    callG (wp G) d 95 0 0 2 [.inr (.inl (some r))] h C X := by
  have R0 := HR.1
  have h1 := H.1
  have hz := hC (hsetI (hsetI h r 0 0) r 15 0) ⟨by simp [hty_I, hvi_I, hvr_I, hvl_I, hsz_I, hty_R, hvi_R, hvr_R, hvl_R, hsz_R, hty_L, hvi_L, hvr_L, hvl_L, hsz_L, hty_P, hvi_P, hvr_P, hvl_P, hsz_P, hty_C, hvi_C, hvr_C, hvl_C, hsz_C], fun i hi => by simp at hi⟩ (by simp [hty_I, hvi_I, hvr_I, hvl_I, hsz_I, hty_R, hvi_R, hvr_R, hvl_R, hsz_R, hty_L, hvi_L, hvr_L, hvl_L, hsz_L, hty_P, hvi_P, hvr_P, hvl_P, hsz_P, hty_C, hvi_C, hvr_C, hvl_C, hsz_C]) (chJ_trans (chJ_set (by simp [sR])) (chJ_set (by simp [sR])))
  refine ⟨C, fun _ _ => False, ?_, fun _ _ q => q, fun _ _ q => q.elim⟩
  (repeat' (first | with_reducible assumption | (refine And.intro ?_ ?_) | (with_reducible intro _) | (simp [wp_eq, wpE, mk_X11_erase, mg, mc_X11_erase, lget, lset, popN, cats, rcv, entL, isArr, kC_s, kC_n, st1, st2, st3, st4, st5, st6, st7, st8, st9, st10, st11, st12, st13, st14, st15, st16, st17, st18, st19, st20, st21, st22, st23, st24, st25, st26, st27, st28, st29, st30, st31, st32, st33, st34, st35, st36, st37, st38, st39, st40, st41, st42, st43, st44, st45, st46, st47, st48, st49, st50, st51, st52, st53, st54, st55, st56, st57, st58, st59, st60, st61, st62, st63, st64, st65, st66, st67, st68, st69, st70, st71, st72, st73, st74, st75, st76, st77, st78, st79, st80, st81, st82, st83, st84, st85, st86, st87, st88, st89, st90, st91, R0, h1, hty_I, hvi_I, hvr_I, hvl_I, hsz_I, hty_R, hvi_R, hvr_R, hvl_R, hsz_R, hty_L, hvi_L, hvr_L, hvl_L, hsz_L, hty_P, hvi_P, hvr_P, hvl_P, hsz_P, hty_C, hvi_C, hvr_C, hvl_C, hsz_C]))) <;> (try (first | omega | exact hz))
def RW (r : Nat) (h : mH) (L : List Int) : Prop := hvi h r 16 = ((wds L).length : Int) ∧ ∀ k, k < (wds L).length → hvi h (r + 14) k = (wS L k : Int) ∧ hvi h (r + 15) k = (wE L k : Int)
def PR (r : Nat) (h : mH) (D : List (Nat × Nat)) (o : Option Nat) (i : Nat) : Prop := hvi h r 16 = (D.length : Int) ∧ (∀ k p, D[k]? = some p → hvi h (r + 14) k = (p.1 : Int) ∧ hvi h (r + 15) k = (p.2 : Int)) ∧ (∀ s, o = some s → hvi h (r + 14) D.length = (s : Int)) ∧ 2 * D.length + (if o = none then 0 else 1) ≤ i
theorem PR_end {r : Nat} {h : mH} {D : List (Nat × Nat)} {s i : Nat} (P : PR r h D (some s) i) : PR r (hsetI (hsetI h (r + 15) D.length (i : Int)) r 16 ((D.length : Int) + 1)) (D ++ [(s, i)]) none (i + 1) := by
  obtain ⟨p1, p2, p3, p4⟩ := P
  refine ⟨by simp [hvi_I], fun k p hk => ?_, fun s h => (by cases h), (by simp at p4 ⊢; omega)⟩
  by_cases hkl : k < D.length
  · rw [List.getElem?_append_left hkl] at hk
    have := p2 k p hk
    simp [hvi_I, this, show ¬ k = D.length by omega]
  · rw [List.getElem?_append_right (by omega)] at hk
    have hk0 : k - D.length = 0 := by
      cases hn : k - D.length with
      | zero => rfl
      | succ n => rw [hn] at hk; simp at hk
    rw [hk0] at hk
    simp at hk
    have : k = D.length := by omega
    subst this; subst hk
    simp [hvi_I, p3 s rfl]
theorem RP_ch {r : Nat} {h h' : mH} {L : List Int} {l : List Nat} (q : chJ (sR r l) h h') (n1 : ¬ 13 ∈ l) (n2 : ¬ 115 ∈ l) (n3 : ¬ 0 ∈ l) (H : RP r h L) : RP r h' L :=
  ⟨by rw [chJ_fld q n2 n3]; exact H.1, fun i hi hj => by rw [chJ_row q (by omega) n1]; exact H.2 i hi hj⟩
theorem cut_loop {G : Nat → Nat} {d r : Nat} {L : List Int} {C : mQ} {X : mX} (hl : L.length ≤ 100) : ∀ (m i : Nat) (o : Option Nat) (D : List (Nat × Nat)) (h : mH), i + m = L.length → RN r h → RP r h L → PR r h D o i → D ++ wdz o i (L.drop i) = wds L →
    (∀ h', RW r h' L → chJ (sR r [14, 15, 116]) h h' → C none h') →
    wp G d 96 (if o = none then 100007 else 100042) [some (.inr (.inl (some r))), some (.inl (i : Int))] [] h 0 0 C X := by
  intro m
  induction m with
  | zero =>
    intro i o D h hm HR H P hD hC
    have R0 := HR.1; have R_line := rn_line HR; have R_begins := rn_begins HR; have R_ends := rn_ends HR
    have h1 := H.1
    have P' := P
    obtain ⟨p1, p2, p3, p4⟩ := P'
    have he : L.drop i = [] := List.drop_of_length_le (by omega)
    rw [he] at hD
    have hil : i = L.length := by omega
    cases o with
    | none =>
      have hz := hC h ⟨by simp [wdz] at hD; rw [p1, hD], fun k hk => by simp [wdz] at hD; have := p2 k ((wds L)[k]) (by rw [hD]; simp [hk]); simpa [wS, wE, hk] using this⟩ chJ_refl
      simp only [if_true]
      rw [wp_hd]
      (repeat' (first | with_reducible assumption | (refine And.intro ?_ ?_) | (with_reducible intro _) | (simp [wp_eq, wpE, mk_X11_cut, mg, mc_X11_cut, lget, lset, popN, cats, rcv, entL, isArr, kC_s, kC_n, st1, st2, st3, st4, st5, st6, st7, st8, st9, st10, st11, st12, st13, st14, st15, st16, st17, st18, st19, st20, st21, st22, st23, st24, st25, st26, st27, st28, st29, st30, st31, st32, st33, st34, st35, st36, st37, st38, st39, st40, st41, st42, st43, st44, st45, st46, st47, st48, st49, st50, st51, st52, st53, st54, st55, st56, st57, st58, st59, st60, st61, st62, st63, st64, st65, st66, st67, st68, st69, st70, st71, st72, st73, st74, st75, st76, st77, st78, st79, st80, st81, st82, st83, st84, st85, st86, st87, st88, st89, st90, st91, R0, R_line, R_begins, R_ends, h1, hil]))) <;> (try (first | omega | exact hz))
    | some s =>
      have P2 := PR_end P
      simp only [wdz] at hD
      obtain ⟨r1, r2, r3, r4⟩ := P2
      have hz := hC _ ⟨by rw [r1, hD], fun k hk => by have := r2 k ((wds L)[k]) (by rw [hD]; simp [hk]); simpa [wS, wE, hk] using this⟩ (chJ_trans (chJ_set (by simp [sR])) (chJ_set (by simp [sR])))
      rw [hil] at hz
      rw [if_neg (by simp), wp_hd]
      (repeat' (first | with_reducible assumption | (refine And.intro ?_ ?_) | (with_reducible intro _) | (simp [wp_eq, wpE, mk_X11_cut, mg, mc_X11_cut, lget, lset, popN, cats, rcv, entL, isArr, kC_s, kC_n, st1, st2, st3, st4, st5, st6, st7, st8, st9, st10, st11, st12, st13, st14, st15, st16, st17, st18, st19, st20, st21, st22, st23, st24, st25, st26, st27, st28, st29, st30, st31, st32, st33, st34, st35, st36, st37, st38, st39, st40, st41, st42, st43, st44, st45, st46, st47, st48, st49, st50, st51, st52, st53, st54, st55, st56, st57, st58, st59, st60, st61, st62, st63, st64, st65, st66, st67, st68, st69, st70, st71, st72, st73, st74, st75, st76, st77, st78, st79, st80, st81, st82, st83, st84, st85, st86, st87, st88, st89, st90, st91, R0, R_line, R_begins, R_ends, h1, hil, p1, inR, hty_I, hvi_I, hvr_I, hvl_I, hsz_I, hty_R, hvi_R, hvr_R, hvl_R, hsz_R, hty_L, hvi_L, hvr_L, hvl_L, hsz_L, hty_P, hvi_P, hvr_P, hvl_P, hsz_P, hty_C, hvi_C, hvr_C, hvl_C, hsz_C]))) <;> (try (first | omega | exact hz))
      rw [wp_hd]
      (repeat' (first | with_reducible assumption | (refine And.intro ?_ ?_) | (with_reducible intro _) | (simp [wp_eq, wpE, mk_X11_cut, mg, mc_X11_cut, lget, lset, popN, cats, rcv, entL, isArr, kC_s, kC_n, st1, st2, st3, st4, st5, st6, st7, st8, st9, st10, st11, st12, st13, st14, st15, st16, st17, st18, st19, st20, st21, st22, st23, st24, st25, st26, st27, st28, st29, st30, st31, st32, st33, st34, st35, st36, st37, st38, st39, st40, st41, st42, st43, st44, st45, st46, st47, st48, st49, st50, st51, st52, st53, st54, st55, st56, st57, st58, st59, st60, st61, st62, st63, st64, st65, st66, st67, st68, st69, st70, st71, st72, st73, st74, st75, st76, st77, st78, st79, st80, st81, st82, st83, st84, st85, st86, st87, st88, st89, st90, st91, R0, R_line, R_begins, R_ends, h1, hil, p1, inR, hty_I, hvi_I, hvr_I, hvl_I, hsz_I, hty_R, hvi_R, hvr_R, hvl_R, hsz_R, hty_L, hvi_L, hvr_L, hvl_L, hsz_L, hty_P, hvi_P, hvr_P, hvl_P, hsz_P, hty_C, hvi_C, hvr_C, hvl_C, hsz_C]))) <;> (try (first | omega | exact hz))
  | succ m ih =>
    intro i o D h hm HR H P hD hC
    have R0 := HR.1; have R_line := rn_line HR; have R_begins := rn_begins HR; have R_ends := rn_ends HR
    have h1 := H.1
    have hc := H.2 i (by omega) (by omega)
    have P' := P
    obtain ⟨p1, p2, p3, p4⟩ := P'
    rw [drop_lf (by omega)] at hD
    have hi : i < L.length := by omega
    cases o with
    | none =>
      simp only [wdz] at hD
      simp at p4
      rw [if_pos rfl, wp_hd]
      by_cases hb : lf L i = 32
      · rw [if_pos hb] at hD
        have hz := ih (i + 1) none D h (by omega) HR H ⟨p1, p2, p3, by simp; omega⟩ hD hC
        (repeat' (first | with_reducible assumption | (refine And.intro ?_ ?_) | (with_reducible intro _) | (simp [wp_eq, wpE, mk_X11_cut, mg, mc_X11_cut, lget, lset, popN, cats, rcv, entL, isArr, kC_s, kC_n, st1, st2, st3, st4, st5, st6, st7, st8, st9, st10, st11, st12, st13, st14, st15, st16, st17, st18, st19, st20, st21, st22, st23, st24, st25, st26, st27, st28, st29, st30, st31, st32, st33, st34, st35, st36, st37, st38, st39, st40, st41, st42, st43, st44, st45, st46, st47, st48, st49, st50, st51, st52, st53, st54, st55, st56, st57, st58, st59, st60, st61, st62, st63, st64, st65, st66, st67, st68, st69, st70, st71, st72, st73, st74, st75, st76, st77, st78, st79, st80, st81, st82, st83, st84, st85, st86, st87, st88, st89, st90, st91, R0, R_line, R_begins, R_ends, h1, hi, hc, hb, inR]))) <;> (try (first | omega | exact hz))
      · rw [if_neg hb] at hD
        have hq : chJ (sR r [14, 15, 116]) h (hsetI h (r + 14) D.length (i : Int)) := chJ_set (by simp [sR])
        have hz := ih (i + 1) (some i) D _ (by omega) (RN_ch hq HR) (RP_ch hq (by simp) (by simp) (by simp) H) ⟨by simp [hty_I, hvi_I, hvr_I, hvl_I, hsz_I, hty_R, hvi_R, hvr_R, hvl_R, hsz_R, hty_L, hvi_L, hvr_L, hvl_L, hsz_L, hty_P, hvi_P, hvr_P, hvl_P, hsz_P, hty_C, hvi_C, hvr_C, hvl_C, hsz_C, p1], fun k p hk => by have hkl := (List.getElem?_eq_some_iff.mp hk).1; simp [hty_I, hvi_I, hvr_I, hvl_I, hsz_I, hty_R, hvi_R, hvr_R, hvl_R, hsz_R, hty_L, hvi_L, hvr_L, hvl_L, hsz_L, hty_P, hvi_P, hvr_P, hvl_P, hsz_P, hty_C, hvi_C, hvr_C, hvl_C, hsz_C, p2 k p hk, show ¬ k = D.length by omega], fun s hs => by cases hs; simp [hty_I, hvi_I, hvr_I, hvl_I, hsz_I, hty_R, hvi_R, hvr_R, hvl_R, hsz_R, hty_L, hvi_L, hvr_L, hvl_L, hsz_L, hty_P, hvi_P, hvr_P, hvl_P, hsz_P, hty_C, hvi_C, hvr_C, hvl_C, hsz_C], by simp; omega⟩ hD (fun h' q1 q2 => hC h' q1 (chJ_trans hq q2))
        (repeat' (first | with_reducible assumption | (refine And.intro ?_ ?_) | (with_reducible intro _) | (simp [wp_eq, wpE, mk_X11_cut, mg, mc_X11_cut, lget, lset, popN, cats, rcv, entL, isArr, kC_s, kC_n, st1, st2, st3, st4, st5, st6, st7, st8, st9, st10, st11, st12, st13, st14, st15, st16, st17, st18, st19, st20, st21, st22, st23, st24, st25, st26, st27, st28, st29, st30, st31, st32, st33, st34, st35, st36, st37, st38, st39, st40, st41, st42, st43, st44, st45, st46, st47, st48, st49, st50, st51, st52, st53, st54, st55, st56, st57, st58, st59, st60, st61, st62, st63, st64, st65, st66, st67, st68, st69, st70, st71, st72, st73, st74, st75, st76, st77, st78, st79, st80, st81, st82, st83, st84, st85, st86, st87, st88, st89, st90, st91, R0, R_line, R_begins, R_ends, h1, hi, hc, hb, p1, inR, hty_I, hvi_I, hvr_I, hvl_I, hsz_I, hty_R, hvi_R, hvr_R, hvl_R, hsz_R, hty_L, hvi_L, hvr_L, hvl_L, hsz_L, hty_P, hvi_P, hvr_P, hvl_P, hsz_P, hty_C, hvi_C, hvr_C, hvl_C, hsz_C]))) <;> (try (first | omega | exact hz))
        rw [wp_hd]
        (repeat' (first | with_reducible assumption | (refine And.intro ?_ ?_) | (with_reducible intro _) | (simp [wp_eq, wpE, mk_X11_cut, mg, mc_X11_cut, lget, lset, popN, cats, rcv, entL, isArr, kC_s, kC_n, st1, st2, st3, st4, st5, st6, st7, st8, st9, st10, st11, st12, st13, st14, st15, st16, st17, st18, st19, st20, st21, st22, st23, st24, st25, st26, st27, st28, st29, st30, st31, st32, st33, st34, st35, st36, st37, st38, st39, st40, st41, st42, st43, st44, st45, st46, st47, st48, st49, st50, st51, st52, st53, st54, st55, st56, st57, st58, st59, st60, st61, st62, st63, st64, st65, st66, st67, st68, st69, st70, st71, st72, st73, st74, st75, st76, st77, st78, st79, st80, st81, st82, st83, st84, st85, st86, st87, st88, st89, st90, st91, R0, R_line, R_begins, R_ends, h1, hi, hc, hb, p1, inR, hty_I, hvi_I, hvr_I, hvl_I, hsz_I, hty_R, hvi_R, hvr_R, hvl_R, hsz_R, hty_L, hvi_L, hvr_L, hvl_L, hsz_L, hty_P, hvi_P, hvr_P, hvl_P, hsz_P, hty_C, hvi_C, hvr_C, hvl_C, hsz_C]))) <;> (try (first | omega | exact hz))
    | some s =>
      simp only [wdz] at hD
      simp at p4
      rw [if_neg (by simp), wp_hd]
      by_cases hb : lf L i = 32
      · rw [if_pos hb] at hD
        have P2 := PR_end P
        have hq : chJ (sR r [14, 15, 116]) h (hsetI (hsetI h (r + 15) D.length (i : Int)) r 16 ((D.length : Int) + 1)) := chJ_trans (chJ_set (by simp [sR])) (chJ_set (by simp [sR]))
        have hz := ih (i + 1) none (D ++ [(s, i)]) _ (by omega) (RN_ch hq HR) (RP_ch hq (by simp) (by simp) (by simp) H) P2 (by simpa using hD) (fun h' q1 q2 => hC h' q1 (chJ_trans hq q2))
        (repeat' (first | with_reducible assumption | (refine And.intro ?_ ?_) | (with_reducible intro _) | (simp [wp_eq, wpE, mk_X11_cut, mg, mc_X11_cut, lget, lset, popN, cats, rcv, entL, isArr, kC_s, kC_n, st1, st2, st3, st4, st5, st6, st7, st8, st9, st10, st11, st12, st13, st14, st15, st16, st17, st18, st19, st20, st21, st22, st23, st24, st25, st26, st27, st28, st29, st30, st31, st32, st33, st34, st35, st36, st37, st38, st39, st40, st41, st42, st43, st44, st45, st46, st47, st48, st49, st50, st51, st52, st53, st54, st55, st56, st57, st58, st59, st60, st61, st62, st63, st64, st65, st66, st67, st68, st69, st70, st71, st72, st73, st74, st75, st76, st77, st78, st79, st80, st81, st82, st83, st84, st85, st86, st87, st88, st89, st90, st91, R0, R_line, R_begins, R_ends, h1, hi, hc, hb, p1, inR, hty_I, hvi_I, hvr_I, hvl_I, hsz_I, hty_R, hvi_R, hvr_R, hvl_R, hsz_R, hty_L, hvi_L, hvr_L, hvl_L, hsz_L, hty_P, hvi_P, hvr_P, hvl_P, hsz_P, hty_C, hvi_C, hvr_C, hvl_C, hsz_C]))) <;> (try (first | omega | exact hz))
        rw [wp_hd]
        (repeat' (first | with_reducible assumption | (refine And.intro ?_ ?_) | (with_reducible intro _) | (simp [wp_eq, wpE, mk_X11_cut, mg, mc_X11_cut, lget, lset, popN, cats, rcv, entL, isArr, kC_s, kC_n, st1, st2, st3, st4, st5, st6, st7, st8, st9, st10, st11, st12, st13, st14, st15, st16, st17, st18, st19, st20, st21, st22, st23, st24, st25, st26, st27, st28, st29, st30, st31, st32, st33, st34, st35, st36, st37, st38, st39, st40, st41, st42, st43, st44, st45, st46, st47, st48, st49, st50, st51, st52, st53, st54, st55, st56, st57, st58, st59, st60, st61, st62, st63, st64, st65, st66, st67, st68, st69, st70, st71, st72, st73, st74, st75, st76, st77, st78, st79, st80, st81, st82, st83, st84, st85, st86, st87, st88, st89, st90, st91, R0, R_line, R_begins, R_ends, h1, hi, hc, hb, p1, inR, hty_I, hvi_I, hvr_I, hvl_I, hsz_I, hty_R, hvi_R, hvr_R, hvl_R, hsz_R, hty_L, hvi_L, hvr_L, hvl_L, hsz_L, hty_P, hvi_P, hvr_P, hvl_P, hsz_P, hty_C, hvi_C, hvr_C, hvl_C, hsz_C]))) <;> (try (first | omega | exact hz))
      · rw [if_neg hb] at hD
        have hz := ih (i + 1) (some s) D h (by omega) HR H ⟨p1, p2, p3, by simp; omega⟩ hD hC
        (repeat' (first | with_reducible assumption | (refine And.intro ?_ ?_) | (with_reducible intro _) | (simp [wp_eq, wpE, mk_X11_cut, mg, mc_X11_cut, lget, lset, popN, cats, rcv, entL, isArr, kC_s, kC_n, st1, st2, st3, st4, st5, st6, st7, st8, st9, st10, st11, st12, st13, st14, st15, st16, st17, st18, st19, st20, st21, st22, st23, st24, st25, st26, st27, st28, st29, st30, st31, st32, st33, st34, st35, st36, st37, st38, st39, st40, st41, st42, st43, st44, st45, st46, st47, st48, st49, st50, st51, st52, st53, st54, st55, st56, st57, st58, st59, st60, st61, st62, st63, st64, st65, st66, st67, st68, st69, st70, st71, st72, st73, st74, st75, st76, st77, st78, st79, st80, st81, st82, st83, st84, st85, st86, st87, st88, st89, st90, st91, R0, R_line, R_begins, R_ends, h1, hi, hc, hb, inR]))) <;> (try (first | omega | exact hz))
theorem r_cut {G : Nat → Nat} {d r : Nat} {h : mH} {L : List Int} {C : mQ} {X : mX} (HR : RN r h) (hl : L.length ≤ 100) (H : RP r h L) (hC : ∀ h', RN r h' → RP r h' L → RW r h' L → chJ (sR r [14, 15, 116]) h h' → C none h') : callG (wp G) d 96 0 0 2 [.inr (.inl (some r))] h C X := by
  have R0 := HR.1
  have hq : chJ (sR r [14, 15, 116]) h (hsetI h r 16 0) := chJ_set (by simp [sR])
  have hz := cut_loop (G := G) (d := d - 1) (C := C) (X := fun _ _ => False) hl L.length 0 none [] _ (by omega) (RN_ch hq HR) (RP_ch hq (by simp) (by simp) (by simp) H) ⟨by simp [hty_I, hvi_I, hvr_I, hvl_I, hsz_I, hty_R, hvi_R, hvr_R, hvl_R, hsz_R, hty_L, hvi_L, hvr_L, hvl_L, hsz_L, hty_P, hvi_P, hvr_P, hvl_P, hsz_P, hty_C, hvi_C, hvr_C, hvl_C, hsz_C], fun k p hk => by simp at hk, fun s q => (by cases q), by simp⟩ (by simp [wds]) (fun h' q1 q2 => hC h' (RN_ch (chJ_trans hq q2) HR) (RP_ch (chJ_trans hq q2) (by simp) (by simp) (by simp) H) q1 (chJ_trans hq q2))
  refine ⟨C, fun _ _ => False, ?_, fun _ _ q => q, fun _ _ q => q.elim⟩
  (repeat' (first | with_reducible assumption | (refine And.intro ?_ ?_) | (with_reducible intro _) | (simp [wp_eq, wpE, mk_X11_cut, mg, mc_X11_cut, lget, lset, popN, cats, rcv, entL, isArr, kC_s, kC_n, st1, st2, st3, st4, st5, st6, st7, st8, st9, st10, st11, st12, st13, st14, st15, st16, st17, st18, st19, st20, st21, st22, st23, st24, st25, st26, st27, st28, st29, st30, st31, st32, st33, st34, st35, st36, st37, st38, st39, st40, st41, st42, st43, st44, st45, st46, st47, st48, st49, st50, st51, st52, st53, st54, st55, st56, st57, st58, st59, st60, st61, st62, st63, st64, st65, st66, st67, st68, st69, st70, st71, st72, st73, st74, st75, st76, st77, st78, st79, st80, st81, st82, st83, st84, st85, st86, st87, st88, st89, st90, st91, R0]))) <;> (try (first | omega | exact hz))
