/-! Writing THE LINE -/
def chI (S : Nat → Prop) (h h' : mH) : Prop := hsz h' = hsz h ∧ (∀ a, hty h' a = hty h a) ∧ (∀ a j, hvr h' a j = hvr h a j) ∧ (∀ a j, hvl h' a j = hvl h a j) ∧ ∀ a j, ¬ S a → hvi h' a j = hvi h a j
theorem chI_refl {S : Nat → Prop} {h : mH} : chI S h h := ⟨rfl, fun _ => rfl, fun _ _ => rfl, fun _ _ => rfl, fun _ _ _ => rfl⟩
theorem chI_trans {S : Nat → Prop} {h1 h2 h3 : mH} (p : chI S h1 h2) (q : chI S h2 h3) : chI S h1 h3 :=
  ⟨q.1.trans p.1, fun a => (q.2.1 a).trans (p.2.1 a), fun a j => (q.2.2.1 a j).trans (p.2.2.1 a j), fun a j => (q.2.2.2.1 a j).trans (p.2.2.2.1 a j), fun a j n => (q.2.2.2.2 a j n).trans (p.2.2.2.2 a j n)⟩
theorem chI_mono {S T : Nat → Prop} {h h' : mH} (hS : ∀ a, S a → T a) (p : chI S h h') : chI T h h' := ⟨p.1, p.2.1, p.2.2.1, p.2.2.2.1, fun a j n => p.2.2.2.2 a j (fun q => n (hS a q))⟩
theorem chI_set {S : Nat → Prop} {h : mH} {a i : Nat} {v : Int} (hS : S a) : chI S h (hsetI h a i v) :=
  ⟨rfl, fun _ => rfl, fun _ _ => rfl, fun _ _ => rfl, fun b j n => by rw [hvi_I]; exact if_neg (fun q => n (by rw [q.1]; exact hS))⟩
theorem chI_cpy {S : Nat → Prop} {h : mH} {a i b j n : Nat} (hS : S b) : chI S h (hcpy h a i b j n) :=
  ⟨rfl, fun _ => rfl, fun _ _ => rfl, fun _ _ => rfl, fun c k m => by rw [hvi_C]; exact if_neg (fun q => m (by rw [q.1]; exact hS))⟩
theorem bAnd_255 (a : Int) : 0 ≤ bAnd a 255 ∧ bAnd a 255 < 256 := by
  have h : (Int32.ofInt a &&& Int32.ofInt 255).toBitVec.toNat ≤ 255 := by
    rw [Int32.toBitVec_and, BitVec.toNat_and]
    exact Nat.and_le_right
  have e : bAnd a 255 = (Int32.ofInt a &&& Int32.ofInt 255).toBitVec.toInt := rfl
  rw [e, BitVec.toInt_eq_toNat_of_lt (by omega)]
  omega
/-- a character of four -/
def byt (four : Int) (s : Nat) : Int := bAnd (bUshr four (s : Int)) 255
def chz (four : Int) : Nat → List Int
  | 0 => []
  | m + 1 => (if byt four (8 * m) = 0 then [] else [byt four (8 * m)]) ++ chz four m
theorem chz_len (four : Int) : ∀ m, (chz four m).length ≤ m := by
  intro m
  induction m with
  | zero => simp [chz]
  | succ m ih => simp only [chz]; split <;> simp <;> omega
theorem chz_b (four : Int) : ∀ m, ∀ c ∈ chz four m, 0 ≤ c ∧ c < 256 := by
  intro m
  induction m with
  | zero => simp [chz]
  | succ m ih =>
    intro c hc
    simp only [chz, List.mem_append] at hc
    rcases hc with hc | hc
    · split at hc
      · simp at hc
      · simp only [List.mem_singleton] at hc; rw [hc]; exact bAnd_255 _
    · exact ih c hc
theorem cin_loop {G : Nat → Nat} {d : Nat} {h : mH} {C : mQ} {X : mX} {four : Int} : ∀ m n : Nat, m + n ≤ 4 → C (some (.inl ((n : Int) + (chz four m).length))) h → wp G d 26 100005 [some (.inl four), some (.inl (n : Int)), some (.inl (8 * (m : Int) - 8))] [] h 0 0 C X := by
  intro m
  induction m with
  | zero =>
    intro n hn hC
    rw [wp_hd]
    simp [wp_eq, wpE, mk_X4_charactersIn, mg, mc_X4_charactersIn, lget, lset, popN, cats, rcv, entL, isArr, kC_s, kC_n, st1, st2, st3, st4, st5, st6, st7, st8, st9, st10, st11, st12, st13, st14, st15, st16, st17, st18, st19, st20, st21, st22, st23, st24, st25, st26, st27, st28, st29, st30, st31, st32, st33, st34, st35, st36, st37, st38, st39, st40, st41, st42, st43, st44, st45, st46, st47, st48, st49, st50, st51, st52, st53, st54, st55, st56, st57, st58, st59, st60, st61, st62, st63, st64, st65, st66, st67, st68, st69, st70, st71, st72, st73, st74, st75, st76, st77, st78, st79, st80, st81, st82, st83, st84, st85, st86, st87, st88, st89, st90, st91]
    simpa [chz] using hC
  | succ m ih =>
    intro n hn hC
    rw [wp_hd]
    have e1 : (8 * ((m + 1 : Nat) : Int) - 8) = ((8 * m : Nat) : Int) := by omega
    have e2 : bAnd (bUshr four ((8 * m : Nat) : Int)) 255 = byt four (8 * m) := rfl
    have e3 : ((8 * m : Nat) : Int) + -8 = 8 * (m : Int) - 8 := by omega
    rw [e1]
    simp only [chz] at hC
    simp [-Int.natCast_mul, wp_eq, wpE, mk_X4_charactersIn, mg, mc_X4_charactersIn, lget, lset, popN, cats, rcv, entL, isArr, kC_s, kC_n, st1, st2, st3, st4, st5, st6, st7, st8, st9, st10, st11, st12, st13, st14, st15, st16, st17, st18, st19, st20, st21, st22, st23, st24, st25, st26, st27, st28, st29, st30, st31, st32, st33, st34, st35, st36, st37, st38, st39, st40, st41, st42, st43, st44, st45, st46, st47, st48, st49, st50, st51, st52, st53, st54, st55, st56, st57, st58, st59, st60, st61, st62, st63, st64, st65, st66, st67, st68, st69, st70, st71, st72, st73, st74, st75, st76, st77, st78, st79, st80, st81, st82, st83, st84, st85, st86, st87, st88, st89, st90, st91, e2, e3, inR]
    refine ⟨by omega, fun hb => ?_, fun hb => ?_⟩
    · rw [if_pos hb] at hC
      exact ⟨by omega, ih n (by omega) (by simpa using hC)⟩
    · rw [if_neg hb] at hC
      refine ⟨by omega, by omega, ih (n + 1) (by omega) ?_⟩
      have : ((n + 1 : Nat) : Int) + (chz four m).length = (n : Int) + (([byt four (8 * m)] ++ chz four m).length : Nat) := by simp; omega
      rw [this]; exact hC
theorem c_charactersIn {G : Nat → Nat} {d : Nat} {h : mH} {C : mQ} {X : mX} {four : Int} (hC : C (some (.inl ((chz four 4).length : Int))) h) : callG (wp G) d 26 0 0 3 [.inl four] h C X := by
  refine ⟨C, fun _ _ => False, ?_, fun _ _ q => q, fun _ _ q => q.elim⟩
  simp [wp_eq, wpE, mk_X4_charactersIn, mg, mc_X4_charactersIn, lget, lset, popN, cats, rcv, entL, isArr, kC_s, kC_n, st1, st2, st3, st4, st5, st6, st7, st8, st9, st10, st11, st12, st13, st14, st15, st16, st17, st18, st19, st20, st21, st22, st23, st24, st25, st26, st27, st28, st29, st30, st31, st32, st33, st34, st35, st36, st37, st38, st39, st40, st41, st42, st43, st44, st45, st46, st47, st48, st49, st50, st51, st52, st53, st54, st55, st56, st57, st58, st59, st60, st61, st62, st63, st64, st65, st66, st67, st68, st69, st70, st71, st72, st73, st74, st75, st76, st77, st78, st79, st80, st81, st82, st83, st84, st85, st86, st87, st88, st89, st90, st91]
  exact cin_loop 4 0 (by omega) (by simpa using hC)
/-- the characters alone -/
def LX (l : Nat) (h : mH) (L : List Int) : Prop := LN l h ∧ L.length ≤ 100 ∧ hvi h l 3 = (L.length : Int) ∧ (∀ i, i < L.length → hvi h (l + 1) i = lf L i) ∧ ∀ c ∈ L, 0 ≤ c ∧ c < 256
theorem LI_X {l : Nat} {h : mH} {L : List Int} (H : LI l h L) : LX l h L := ⟨H.1, H.2.1.1, H.2.1.2.1, H.2.1.2.2.1, H.2.2⟩
theorem LN_ch {S : Nat → Prop} {l : Nat} {h h' : mH} (q : chI S h h') (H : LN l h) : LN l h' := by
  obtain ⟨q1, q2, q3, q4, q5⟩ := q
  unfold LN at *
  simpa only [q2, q3] using H
theorem lf_app_l {A B : List Int} {i : Nat} (h : i < A.length) : lf (A ++ B) i = lf A i := by simp [lf, List.getElem?_append_left h]
theorem lf_app_r {A B : List Int} {i : Nat} (h : A.length ≤ i) : lf (A ++ B) i = lf B (i - A.length) := by simp [lf, List.getElem?_append_right h]
theorem LX_push {l : Nat} {h : mH} {L : List Int} {c : Int} (H : LX l h L) (hl : L.length < 100) (hc : 0 ≤ c ∧ c < 256) : LX l (hsetI (hsetI h (l + 1) L.length c) l 3 ((L.length : Int) + 1)) (L ++ [c]) := by
  obtain ⟨h1, h2, h3, h4, h5⟩ := H
  refine ⟨h1, by simp; omega, by simp [hvi_I], fun i hi => ?_, fun x hx => ?_⟩
  · simp at hi
    simp [hvi_I]
    by_cases he : i = L.length
    · rw [if_pos he, he, lf_app_r (Nat.le_refl _)]; simp [lf]
    · rw [if_neg he, lf_app_l (by omega)]; exact h4 i (by omega)
  · rcases List.mem_append.mp hx with hx | hx
    · exact h5 x hx
    · rw [List.mem_singleton.mp hx]; exact hc
theorem add_loop {G : Nat → Nat} {d l : Nat} {C : mQ} {X : mX} {four : Int} : ∀ (m : Nat) (h : mH) (L : List Int) (x3 : Option mV), m ≤ 4 → LX l h L → L.length + (chz four m).length ≤ 100 → (∀ h', LX l h' (L ++ chz four m) → chI (fun a => a = l ∨ a = l + 1) h h' → C none h') →
    wp G d 27 100003 [some (.inr (.inl (some l))), some (.inl four), some (.inl (8 * (m : Int) - 8)), x3] [] h 0 0 C X := by
  intro m
  induction m with
  | zero =>
    intro h L x3 hm H hl hC
    rw [wp_hd]
    simp [wp_eq, wpE, mk_X4_add, mg, mc_X4_add, lget, lset, popN, cats, rcv, entL, isArr, kC_s, kC_n, st1, st2, st3, st4, st5, st6, st7, st8, st9, st10, st11, st12, st13, st14, st15, st16, st17, st18, st19, st20, st21, st22, st23, st24, st25, st26, st27, st28, st29, st30, st31, st32, st33, st34, st35, st36, st37, st38, st39, st40, st41, st42, st43, st44, st45, st46, st47, st48, st49, st50, st51, st52, st53, st54, st55, st56, st57, st58, st59, st60, st61, st62, st63, st64, st65, st66, st67, st68, st69, st70, st71, st72, st73, st74, st75, st76, st77, st78, st79, st80, st81, st82, st83, st84, st85, st86, st87, st88, st89, st90, st91]
    exact hC h (by simpa [chz] using H) chI_refl
  | succ m ih =>
    intro h L x3 hm H hl hC
    rw [wp_hd]
    have hh := H
    obtain ⟨⟨a1, a2, a3, a4, a5, a6, a7⟩, b1, b2, b3, b4⟩ := hh
    have e1 : (8 * ((m + 1 : Nat) : Int) - 8) = ((8 * m : Nat) : Int) := by omega
    have e2 : bAnd (bUshr four ((8 * m : Nat) : Int)) 255 = byt four (8 * m) := rfl
    have e3 : ((8 * m : Nat) : Int) + -8 = 8 * (m : Int) - 8 := by omega
    have hb := bAnd_255 (bUshr four ((8 * m : Nat) : Int))
    rw [e2] at hb
    rw [e1]
    simp only [chz] at hC hl
    simp [-Int.natCast_mul, wp_eq, wpE, mk_X4_add, mg, mc_X4_add, lget, lset, popN, cats, rcv, entL, isArr, kC_s, kC_n, st1, st2, st3, st4, st5, st6, st7, st8, st9, st10, st11, st12, st13, st14, st15, st16, st17, st18, st19, st20, st21, st22, st23, st24, st25, st26, st27, st28, st29, st30, st31, st32, st33, st34, st35, st36, st37, st38, st39, st40, st41, st42, st43, st44, st45, st46, st47, st48, st49, st50, st51, st52, st53, st54, st55, st56, st57, st58, st59, st60, st61, st62, st63, st64, st65, st66, st67, st68, st69, st70, st71, st72, st73, st74, st75, st76, st77, st78, st79, st80, st81, st82, st83, st84, st85, st86, st87, st88, st89, st90, st91, e2, e3, inR, a1, a2, a5, hty_I, hvi_I, hvr_I, hvl_I, hsz_I, hty_R, hvi_R, hvr_R, hvl_R, hsz_R, hty_L, hvi_L, hvr_L, hvl_L, hsz_L, hty_P, hvi_P, hvr_P, hvl_P, hsz_P, hty_C, hvi_C, hvr_C, hvl_C, hsz_C, b2]
    refine ⟨by omega, fun hz => ?_, fun hz => ?_⟩
    · rw [if_pos hz] at hC hl
      exact ⟨by omega, ih h L _ (by omega) H (by simpa using hl) (fun h' q1 q2 => hC h' (by simpa using q1) q2)⟩
    · rw [if_neg hz] at hC hl
      simp at hl
      refine ⟨by omega, fun _ => ?_⟩
      refine ⟨by omega, by omega, by omega, by omega, by omega, ?_⟩
      refine ih _ (L ++ [byt four (8 * m)]) _ (by omega) (LX_push H (by omega) hb) (by simp; omega) (fun h' q1 q2 => hC h' (by simpa using q1) ?_)
      exact chI_trans (chI_trans (chI_set (Or.inr rfl)) (chI_set (Or.inl rfl))) q2
theorem c_add {G : Nat → Nat} {d l : Nat} {h : mH} {L : List Int} {C : mQ} {X : mX} {four : Int} (H : LX l h L) (hl : L.length + (chz four 4).length ≤ 100) (hC : ∀ h', LX l h' (L ++ chz four 4) → chI (fun a => a = l ∨ a = l + 1) h h' → C none h') : callG (wp G) d 27 0 0 4 [.inr (.inl (some l)), .inl four] h C X := by
  refine ⟨C, fun _ _ => False, ?_, fun _ _ q => q, fun _ _ q => q.elim⟩
  simp [wp_eq, wpE, mk_X4_add, mg, mc_X4_add, lget, lset, popN, cats, rcv, entL, isArr, kC_s, kC_n, st1, st2, st3, st4, st5, st6, st7, st8, st9, st10, st11, st12, st13, st14, st15, st16, st17, st18, st19, st20, st21, st22, st23, st24, st25, st26, st27, st28, st29, st30, st31, st32, st33, st34, st35, st36, st37, st38, st39, st40, st41, st42, st43, st44, st45, st46, st47, st48, st49, st50, st51, st52, st53, st54, st55, st56, st57, st58, st59, st60, st61, st62, st63, st64, st65, st66, st67, st68, st69, st70, st71, st72, st73, st74, st75, st76, st77, st78, st79, st80, st81, st82, st83, st84, st85, st86, st87, st88, st89, st90, st91]
  exact add_loop 4 h L _ (by omega) H hl hC
def PW (l : Nat) (h : mH) (D : List (Nat × Nat)) (o : Option Nat) (i : Nat) : Prop := hvi h l 4 = ((D.length + (if o = none then 0 else 1) : Nat) : Int) ∧ (∀ k p, D[k]? = some p → hvi h (l + 2) k = (p.1 : Int) ∧ hvi h (l + 3) k = (p.2 : Int)) ∧ (∀ s, o = some s → hvi h (l + 2) D.length = (s : Int) ∧ hvi h (l + 3) D.length = (i : Int) ∧ s < i) ∧ 2 * D.length + (if o = none then 0 else 1) ≤ i
theorem drop_lf {L : List Int} {i : Nat} (h : i < L.length) : L.drop i = lf L i :: L.drop (i + 1) := by
  rw [List.drop_eq_getElem_cons h]; simp [lf, h]
theorem LI_of {l : Nat} {h : mH} {L : List Int} {D : List (Nat × Nat)} (H : LX l h L) (hD : D = wds L) (h4 : hvi h l 4 = (D.length : Int)) (hk : ∀ k p, D[k]? = some p → hvi h (l + 2) k = (p.1 : Int) ∧ hvi h (l + 3) k = (p.2 : Int)) : LI l h L := by
  obtain ⟨h1, h2, h3, h5, h6⟩ := H
  refine ⟨h1, ⟨h2, h3, h5, by rw [h4, hD], fun k hl => ?_⟩, h6⟩
  have := hk k ((wds L)[k]) (by rw [hD]; simp [hl])
  simpa [wS, wE, hl] using this
theorem LX_ch {S : Nat → Prop} {l : Nat} {h h' : mH} {L : List Int} (q : chI S h h') (n1 : ¬ S (l + 1)) (n2 : hvi h' l 3 = hvi h l 3) (H : LX l h L) : LX l h' L := by
  obtain ⟨h1, h2, h3, h4, h5⟩ := H
  exact ⟨LN_ch q h1, h2, by rw [n2]; exact h3, fun i hi => by rw [q.2.2.2.2 _ _ n1]; exact h4 i hi, h5⟩
theorem split_loop {G : Nat → Nat} {d l : Nat} {L : List Int} {C : mQ} {X : mX} : ∀ (m i : Nat) (o : Option Nat) (D : List (Nat × Nat)) (h : mH) (x3 : Option mV), i + m = L.length → LX l h L → PW l h D o i → D ++ wdz o i (L.drop i) = wds L →
    (∀ h', LI l h' L → chI (fun a => a = l ∨ a = l + 2 ∨ a = l + 3) h h' → C none h') →
    wp G d 28 100009 [some (.inr (.inl (some l))), some (.inl (if o = none then 0 else 1)), some (.inl (i : Int)), x3] [] h 0 0 C X := by
  intro m
  induction m with
  | zero =>
    intro i o D h x3 hm H P hD hC
    have hh := H
    obtain ⟨⟨a1, a2, a3, a4, a5, a6, a7⟩, b1, b2, b3, b4⟩ := hh
    obtain ⟨p1, p2, p3, p4⟩ := P
    rw [wp_hd]
    simp [wp_eq, wpE, mk_X4_split, mg, mc_X4_split, lget, lset, popN, cats, rcv, entL, isArr, kC_s, kC_n, st1, st2, st3, st4, st5, st6, st7, st8, st9, st10, st11, st12, st13, st14, st15, st16, st17, st18, st19, st20, st21, st22, st23, st24, st25, st26, st27, st28, st29, st30, st31, st32, st33, st34, st35, st36, st37, st38, st39, st40, st41, st42, st43, st44, st45, st46, st47, st48, st49, st50, st51, st52, st53, st54, st55, st56, st57, st58, st59, st60, st61, st62, st63, st64, st65, st66, st67, st68, st69, st70, st71, st72, st73, st74, st75, st76, st77, st78, st79, st80, st81, st82, st83, st84, st85, st86, st87, st88, st89, st90, st91, a1, b2, show ¬ (i < L.length) by omega]
    have he : L.drop i = [] := List.drop_of_length_le (by omega)
    rw [he] at hD
    refine hC h (LI_of H hD ?_ ?_) chI_refl
    · rw [p1]
      cases o <;> simp [wdz]
    · intro k p hk
      cases o with
      | none => simp [wdz] at hk; exact p2 k p hk
      | some s =>
        obtain ⟨q1, q2, q3⟩ := p3 s rfl
        by_cases hkl : k < D.length
        · rw [List.getElem?_append_left hkl] at hk; exact p2 k p hk
        · rw [List.getElem?_append_right (by omega)] at hk
          simp only [wdz] at hk
          have hk0 : k - D.length = 0 := by
            cases hn : k - D.length with
            | zero => rfl
            | succ n => rw [hn] at hk; simp at hk
          rw [hk0] at hk
          simp at hk
          have : k = D.length := by omega
          subst this; subst hk
          exact ⟨q1, by rw [q2]⟩
  | succ m ih =>
    intro i o D h x3 hm H P hD hC
    have hh := H
    obtain ⟨⟨a1, a2, a3, a4, a5, a6, a7⟩, b1, b2, b3, b4⟩ := hh
    obtain ⟨p1, p2, p3, p4⟩ := P
    have hc := b3 i (by omega)
    rw [drop_lf (by omega)] at hD
    rw [wp_hd]
    have hS : ∀ {v w : Int} {k j : Nat}, chI (fun a => a = l ∨ a = l + 2 ∨ a = l + 3) h (hsetI (hsetI (hsetI h (l + 2) k v) l 4 w) (l + 3) k j) := chI_trans (chI_trans (chI_set (Or.inr (Or.inl rfl))) (chI_set (Or.inl rfl))) (chI_set (Or.inr (Or.inr rfl)))
    have hS2 : ∀ {k j : Nat}, chI (fun a => a = l ∨ a = l + 2 ∨ a = l + 3) h (hsetI h (l + 3) k j) := chI_set (Or.inr (Or.inr rfl))
    cases o with
    | none =>
      simp only [wdz] at hD
      simp at p1 p4
      (repeat' (first | with_reducible assumption | (refine And.intro ?_ ?_) | (with_reducible intro _) | (simp [wp_eq, wpE, mk_X4_split, mg, mc_X4_split, lget, lset, popN, cats, rcv, entL, isArr, kC_s, kC_n, st1, st2, st3, st4, st5, st6, st7, st8, st9, st10, st11, st12, st13, st14, st15, st16, st17, st18, st19, st20, st21, st22, st23, st24, st25, st26, st27, st28, st29, st30, st31, st32, st33, st34, st35, st36, st37, st38, st39, st40, st41, st42, st43, st44, st45, st46, st47, st48, st49, st50, st51, st52, st53, st54, st55, st56, st57, st58, st59, st60, st61, st62, st63, st64, st65, st66, st67, st68, st69, st70, st71, st72, st73, st74, st75, st76, st77, st78, st79, st80, st81, st82, st83, st84, st85, st86, st87, st88, st89, st90, st91, a1, a2, a3, a4, a5, a6, a7, b2, hc, inR, hty_I, hvi_I, hvr_I, hvl_I, hsz_I, hty_R, hvi_R, hvr_R, hvl_R, hsz_R, hty_L, hvi_L, hvr_L, hvl_L, hsz_L, hty_P, hvi_P, hvr_P, hvl_P, hsz_P, hty_C, hvi_C, hvr_C, hvl_C, hsz_C, p1]))) <;> (try omega)
      · rename_i _ _ hb _
        rw [if_neg hb] at hD
        refine ih (i + 1) (some i) D _ _ (by omega) (LX_ch hS (by simp) (by simp [hty_I, hvi_I, hvr_I, hvl_I, hsz_I, hty_R, hvi_R, hvr_R, hvl_R, hsz_R, hty_L, hvi_L, hvr_L, hvl_L, hsz_L, hty_P, hvi_P, hvr_P, hvl_P, hsz_P, hty_C, hvi_C, hvr_C, hvl_C, hsz_C]) H) ⟨by simp [hty_I, hvi_I, hvr_I, hvl_I, hsz_I, hty_R, hvi_R, hvr_R, hvl_R, hsz_R, hty_L, hvi_L, hvr_L, hvl_L, hsz_L, hty_P, hvi_P, hvr_P, hvl_P, hsz_P, hty_C, hvi_C, hvr_C, hvl_C, hsz_C], ?_, ?_, by simp; omega⟩ hD (fun h' q1 q2 => hC h' q1 (chI_trans hS q2))
        · intro k p hk
          have hkl := (List.getElem?_eq_some_iff.mp hk).1
          have := p2 k p hk
          simp [hty_I, hvi_I, hvr_I, hvl_I, hsz_I, hty_R, hvi_R, hvr_R, hvl_R, hsz_R, hty_L, hvi_L, hvr_L, hvl_L, hsz_L, hty_P, hvi_P, hvr_P, hvl_P, hsz_P, hty_C, hvi_C, hvr_C, hvl_C, hsz_C, show ¬ k = D.length by omega, this]
        · intro s hs
          cases hs
          simp [hty_I, hvi_I, hvr_I, hvl_I, hsz_I, hty_R, hvi_R, hvr_R, hvl_R, hsz_R, hty_L, hvi_L, hvr_L, hvl_L, hsz_L, hty_P, hvi_P, hvr_P, hvl_P, hsz_P, hty_C, hvi_C, hvr_C, hvl_C, hsz_C]
      · rename_i hb
        rw [if_pos hb] at hD
        exact ih (i + 1) none D h _ (by omega) H ⟨by simpa using p1, p2, (by intro s q; cases q), (by simp; omega)⟩ hD hC
    | some s =>
      simp only [wdz] at hD
      simp at p1 p4
      obtain ⟨r1, r2, r3⟩ := p3 s rfl
      (repeat' (first | with_reducible assumption | (refine And.intro ?_ ?_) | (with_reducible intro _) | (simp [wp_eq, wpE, mk_X4_split, mg, mc_X4_split, lget, lset, popN, cats, rcv, entL, isArr, kC_s, kC_n, st1, st2, st3, st4, st5, st6, st7, st8, st9, st10, st11, st12, st13, st14, st15, st16, st17, st18, st19, st20, st21, st22, st23, st24, st25, st26, st27, st28, st29, st30, st31, st32, st33, st34, st35, st36, st37, st38, st39, st40, st41, st42, st43, st44, st45, st46, st47, st48, st49, st50, st51, st52, st53, st54, st55, st56, st57, st58, st59, st60, st61, st62, st63, st64, st65, st66, st67, st68, st69, st70, st71, st72, st73, st74, st75, st76, st77, st78, st79, st80, st81, st82, st83, st84, st85, st86, st87, st88, st89, st90, st91, a1, a2, a3, a4, a5, a6, a7, b2, hc, inR, hty_I, hvi_I, hvr_I, hvl_I, hsz_I, hty_R, hvi_R, hvr_R, hvl_R, hsz_R, hty_L, hvi_L, hvr_L, hvl_L, hsz_L, hty_P, hvi_P, hvr_P, hvl_P, hsz_P, hty_C, hvi_C, hvr_C, hvl_C, hsz_C, p1]))) <;> (try omega)
      · rename_i _ _ hb
        rw [if_neg hb] at hD
        refine ih (i + 1) (some s) D _ _ (by omega) (LX_ch (hS2 (k := D.length) (j := i + 1)) (by simp) (by simp [hty_I, hvi_I, hvr_I, hvl_I, hsz_I, hty_R, hvi_R, hvr_R, hvl_R, hsz_R, hty_L, hvi_L, hvr_L, hvl_L, hsz_L, hty_P, hvi_P, hvr_P, hvl_P, hsz_P, hty_C, hvi_C, hvr_C, hvl_C, hsz_C]) H) ⟨by simp [hty_I, hvi_I, hvr_I, hvl_I, hsz_I, hty_R, hvi_R, hvr_R, hvl_R, hsz_R, hty_L, hvi_L, hvr_L, hvl_L, hsz_L, hty_P, hvi_P, hvr_P, hvl_P, hsz_P, hty_C, hvi_C, hvr_C, hvl_C, hsz_C, p1], ?_, ?_, by simp; omega⟩ hD (fun h' q1 q2 => hC h' q1 (chI_trans (hS2 (k := D.length) (j := i + 1)) q2))
        · intro k p hk
          have hkl := (List.getElem?_eq_some_iff.mp hk).1
          have := p2 k p hk
          simp [hty_I, hvi_I, hvr_I, hvl_I, hsz_I, hty_R, hvi_R, hvr_R, hvl_R, hsz_R, hty_L, hvi_L, hvr_L, hvl_L, hsz_L, hty_P, hvi_P, hvr_P, hvl_P, hsz_P, hty_C, hvi_C, hvr_C, hvl_C, hsz_C, show ¬ k = D.length by omega, this]
        · intro s' hs
          cases hs
          simp [hty_I, hvi_I, hvr_I, hvl_I, hsz_I, hty_R, hvi_R, hvr_R, hvl_R, hsz_R, hty_L, hvi_L, hvr_L, hvl_L, hsz_L, hty_P, hvi_P, hvr_P, hvl_P, hsz_P, hty_C, hvi_C, hvr_C, hvl_C, hsz_C, r1]
          omega
      · rename_i hb
        rw [if_pos hb] at hD
        refine ih (i + 1) none (D ++ [(s, i)]) h _ (by omega) H ⟨by simp [p1], ?_, (by intro s q; cases q), (by simp; omega)⟩ (by simpa using hD) hC
        intro k p hk
        by_cases hkl : k < D.length
        · rw [List.getElem?_append_left hkl] at hk; exact p2 k p hk
        · rw [List.getElem?_append_right (by omega)] at hk
          have hk0 : k - D.length = 0 := by
            cases hn : k - D.length with
            | zero => rfl
            | succ n => rw [hn] at hk; simp at hk
          rw [hk0] at hk
          simp at hk
          have : k = D.length := by omega
          subst this; subst hk
          exact ⟨r1, r2⟩
theorem c_split {G : Nat → Nat} {d l : Nat} {h : mH} {L : List Int} {C : mQ} {X : mX} (H : LX l h L) (hC : ∀ h', LI l h' L → chI (fun a => a = l ∨ a = l + 2 ∨ a = l + 3) h h' → C none h') : callG (wp G) d 28 0 0 4 [.inr (.inl (some l))] h C X := by
  have hh := H
  obtain ⟨⟨a1, a2, a3, a4, a5, a6, a7⟩, b1, b2, b3, b4⟩ := hh
  have hS : chI (fun a => a = l ∨ a = l + 2 ∨ a = l + 3) h (hsetI h l 4 0) := chI_set (Or.inl rfl)
  refine ⟨C, fun _ _ => False, ?_, fun _ _ q => q, fun _ _ q => q.elim⟩
  simp [wp_eq, wpE, mk_X4_split, mg, mc_X4_split, lget, lset, popN, cats, rcv, entL, isArr, kC_s, kC_n, st1, st2, st3, st4, st5, st6, st7, st8, st9, st10, st11, st12, st13, st14, st15, st16, st17, st18, st19, st20, st21, st22, st23, st24, st25, st26, st27, st28, st29, st30, st31, st32, st33, st34, st35, st36, st37, st38, st39, st40, st41, st42, st43, st44, st45, st46, st47, st48, st49, st50, st51, st52, st53, st54, st55, st56, st57, st58, st59, st60, st61, st62, st63, st64, st65, st66, st67, st68, st69, st70, st71, st72, st73, st74, st75, st76, st77, st78, st79, st80, st81, st82, st83, st84, st85, st86, st87, st88, st89, st90, st91, a1]
  refine split_loop (L := L) L.length 0 none [] _ _ (by omega) (LX_ch hS (by simp) (by simp [hty_I, hvi_I, hvr_I, hvl_I, hsz_I, hty_R, hvi_R, hvr_R, hvl_R, hsz_R, hty_L, hvi_L, hvr_L, hvl_L, hsz_L, hty_P, hvi_P, hvr_P, hvl_P, hsz_P, hty_C, hvi_C, hvr_C, hvl_C, hsz_C]) H) ⟨by simp [hty_I, hvi_I, hvr_I, hvl_I, hsz_I, hty_R, hvi_R, hvr_R, hvl_R, hsz_R, hty_L, hvi_L, hvr_L, hvl_L, hsz_L, hty_P, hvi_P, hvr_P, hvl_P, hsz_P, hty_C, hvi_C, hvr_C, hvl_C, hsz_C], (by intro k p hk; simp at hk), (by intro s q; cases q), (by simp)⟩ (by simp [wds]) (fun h' q1 q2 => hC h' q1 (chI_trans hS q2))
/-- lastStepEnd, lastStepStart: both sides go alike -/
def lsE (f : Nat → Int) (s : Nat) : Nat → Nat
  | 0 => 0
  | e + 1 => if s < e + 1 ∧ f e = 47 then lsE f s e else e + 1
def lsS (f : Nat → Int) (s : Nat) : Nat → Nat
  | 0 => 0
  | e + 1 => if s < e + 1 ∧ ¬ f e = 47 then lsS f s e else e + 1
theorem lsE_b (f : Nat → Int) (s : Nat) : ∀ e, s ≤ e → s ≤ lsE f s e ∧ lsE f s e ≤ e := by
  intro e
  induction e with
  | zero => intro h; simp [lsE]; omega
  | succ e ih =>
    intro h
    simp only [lsE]
    split
    · rename_i hq; have := ih (by omega); omega
    · omega
theorem lsS_b (f : Nat → Int) (s : Nat) : ∀ e, s ≤ e → s ≤ lsS f s e ∧ lsS f s e ≤ e := by
  intro e
  induction e with
  | zero => intro h; simp [lsS]; omega
  | succ e ih =>
    intro h
    simp only [lsS]
    split
    · rename_i hq; have := ih (by omega); omega
    · omega
def lE (L : List Int) (k : Nat) : Nat := lsE (lf L) (wS L k) (wE L k)
def lS (L : List Int) (k : Nat) : Nat := lsS (lf L) (wS L k) (lE L k)
theorem lE_b (L : List Int) (k : Nat) : wS L k ≤ lS L k ∧ lS L k ≤ lE L k ∧ lE L k ≤ wE L k ∧ wE L k ≤ L.length := by
  have h1 := wS_le L k
  have h2 := lsE_b (lf L) (wS L k) (wE L k) h1.1
  have h3 := lsS_b (lf L) (wS L k) (lE L k) h2.1
  unfold lS lE at *
  omega
theorem lse_loop {G : Nat → Nat} {d l s : Nat} {h : mH} {L : List Int} {C : mQ} {X : mX} {x1 : Option mV} (H : LI l h L) : ∀ e : Nat, s ≤ e → e ≤ L.length → C (some (.inl (lsE (lf L) s e : Int))) h → wp G d 35 100012 [some (.inr (.inl (some l))), x1, some (.inl (s : Int)), some (.inl (e : Int))] [] h 0 0 C X := by
  obtain ⟨⟨a1, a2, a3, a4, a5, a6, a7⟩, ⟨b1, b2, b3, b4, b5⟩, b6⟩ := H
  intro e
  induction e with
  | zero =>
    intro hs hl hC
    rw [wp_hd]
    simp [lsE] at hC
    simp [wp_eq, wpE, mk_X4_lastStepEnd, mg, mc_X4_lastStepEnd, lget, lset, popN, cats, rcv, entL, isArr, kC_s, kC_n, st1, st2, st3, st4, st5, st6, st7, st8, st9, st10, st11, st12, st13, st14, st15, st16, st17, st18, st19, st20, st21, st22, st23, st24, st25, st26, st27, st28, st29, st30, st31, st32, st33, st34, st35, st36, st37, st38, st39, st40, st41, st42, st43, st44, st45, st46, st47, st48, st49, st50, st51, st52, st53, st54, st55, st56, st57, st58, st59, st60, st61, st62, st63, st64, st65, st66, st67, st68, st69, st70, st71, st72, st73, st74, st75, st76, st77, st78, st79, st80, st81, st82, st83, st84, st85, st86, st87, st88, st89, st90, st91, hC]
    intro _; omega
  | succ e ih =>
    intro hs hl hC
    rw [wp_hd]
    have hc := b3 e (by omega)
    have e1 : ((e + 1 : Nat) : Int) - 1 = (e : Int) := by omega
    have e2 : ((e + 1 : Nat) : Int) + -1 = (e : Int) := by omega
    simp only [lsE] at hC
    (repeat' (first | with_reducible assumption | (refine And.intro ?_ ?_) | (with_reducible intro _) | (simp [wp_eq, wpE, mk_X4_lastStepEnd, mg, mc_X4_lastStepEnd, lget, lset, popN, cats, rcv, entL, isArr, kC_s, kC_n, st1, st2, st3, st4, st5, st6, st7, st8, st9, st10, st11, st12, st13, st14, st15, st16, st17, st18, st19, st20, st21, st22, st23, st24, st25, st26, st27, st28, st29, st30, st31, st32, st33, st34, st35, st36, st37, st38, st39, st40, st41, st42, st43, st44, st45, st46, st47, st48, st49, st50, st51, st52, st53, st54, st55, st56, st57, st58, st59, st60, st61, st62, st63, st64, st65, st66, st67, st68, st69, st70, st71, st72, st73, st74, st75, st76, st77, st78, st79, st80, st81, st82, st83, st84, st85, st86, st87, st88, st89, st90, st91, -Int.natCast_add, a1, a2, a5, e1, e2, inR, hc]))) <;> (try omega)
    · rename_i hq
      rw [if_neg (by omega)] at hC
      exact hC
    · rename_i hq h47
      rw [if_neg (fun q => h47 q.2)] at hC
      exact hC
    · rename_i hq h47
      rw [if_pos ⟨by omega, h47⟩] at hC
      exact ih (by omega) (by omega) hC
theorem c_lastStepEnd {G : Nat → Nat} {d l k : Nat} {h : mH} {L : List Int} {C : mQ} {X : mX} (hd : 2 ≤ d) (H : LI l h L) (hC : C (some (.inl (lE L k : Int))) h) : callG (wp G) d 35 0 0 4 [.inr (.inl (some l)), .inl (k : Int)] h C X := by
  have a1 := H.1.1
  have hl := wS_le L k
  refine cg 1 (by omega) (fun d hd => ?_)
  have hd0 : (0 < d) = True := eq_true (by omega)
  (repeat' (first | with_reducible assumption | (refine c_start H ?_) | (refine c_end H ?_) | (refine And.intro ?_ ?_) | (with_reducible intro _) | (simp [wp_eq, wpE, mk_X4_lastStepEnd, mg, mc_X4_lastStepEnd, lget, lset, popN, cats, rcv, entL, isArr, kC_s, kC_n, st1, st2, st3, st4, st5, st6, st7, st8, st9, st10, st11, st12, st13, st14, st15, st16, st17, st18, st19, st20, st21, st22, st23, st24, st25, st26, st27, st28, st29, st30, st31, st32, st33, st34, st35, st36, st37, st38, st39, st40, st41, st42, st43, st44, st45, st46, st47, st48, st49, st50, st51, st52, st53, st54, st55, st56, st57, st58, st59, st60, st61, st62, st63, st64, st65, st66, st67, st68, st69, st70, st71, st72, st73, st74, st75, st76, st77, st78, st79, st80, st81, st82, st83, st84, st85, st86, st87, st88, st89, st90, st91, a1, hd0]))) <;> (try omega)
  exact lse_loop H (wE L k) hl.1 hl.2 hC
theorem lss_loop {G : Nat → Nat} {d l s : Nat} {h : mH} {L : List Int} {C : mQ} {X : mX} {x1 : Option mV} (H : LI l h L) : ∀ e : Nat, s ≤ e → e ≤ L.length → C (some (.inl (lsS (lf L) s e : Int))) h → wp G d 36 100012 [some (.inr (.inl (some l))), x1, some (.inl (s : Int)), some (.inl (e : Int))] [] h 0 0 C X := by
  obtain ⟨⟨a1, a2, a3, a4, a5, a6, a7⟩, ⟨b1, b2, b3, b4, b5⟩, b6⟩ := H
  intro e
  induction e with
  | zero =>
    intro hs hl hC
    rw [wp_hd]
    simp [lsS] at hC
    simp [wp_eq, wpE, mk_X4_lastStepStart, mg, mc_X4_lastStepStart, lget, lset, popN, cats, rcv, entL, isArr, kC_s, kC_n, st1, st2, st3, st4, st5, st6, st7, st8, st9, st10, st11, st12, st13, st14, st15, st16, st17, st18, st19, st20, st21, st22, st23, st24, st25, st26, st27, st28, st29, st30, st31, st32, st33, st34, st35, st36, st37, st38, st39, st40, st41, st42, st43, st44, st45, st46, st47, st48, st49, st50, st51, st52, st53, st54, st55, st56, st57, st58, st59, st60, st61, st62, st63, st64, st65, st66, st67, st68, st69, st70, st71, st72, st73, st74, st75, st76, st77, st78, st79, st80, st81, st82, st83, st84, st85, st86, st87, st88, st89, st90, st91, hC]
    intro _; omega
  | succ e ih =>
    intro hs hl hC
    rw [wp_hd]
    have hc := b3 e (by omega)
    have e1 : ((e + 1 : Nat) : Int) - 1 = (e : Int) := by omega
    have e2 : ((e + 1 : Nat) : Int) + -1 = (e : Int) := by omega
    simp only [lsS] at hC
    (repeat' (first | with_reducible assumption | (refine And.intro ?_ ?_) | (with_reducible intro _) | (simp [wp_eq, wpE, mk_X4_lastStepStart, mg, mc_X4_lastStepStart, lget, lset, popN, cats, rcv, entL, isArr, kC_s, kC_n, st1, st2, st3, st4, st5, st6, st7, st8, st9, st10, st11, st12, st13, st14, st15, st16, st17, st18, st19, st20, st21, st22, st23, st24, st25, st26, st27, st28, st29, st30, st31, st32, st33, st34, st35, st36, st37, st38, st39, st40, st41, st42, st43, st44, st45, st46, st47, st48, st49, st50, st51, st52, st53, st54, st55, st56, st57, st58, st59, st60, st61, st62, st63, st64, st65, st66, st67, st68, st69, st70, st71, st72, st73, st74, st75, st76, st77, st78, st79, st80, st81, st82, st83, st84, st85, st86, st87, st88, st89, st90, st91, -Int.natCast_add, a1, a2, a5, e1, e2, inR, hc]))) <;> (try omega)
    · rename_i hq
      rw [if_neg (by omega)] at hC
      exact hC
    · rename_i hq h47
      rw [if_neg (fun q => q.2 h47)] at hC
      exact hC
    · rename_i hq h47
      rw [if_pos ⟨by omega, h47⟩] at hC
      exact ih (by omega) (by omega) hC
theorem c_lastStepStart {G : Nat → Nat} {d l k : Nat} {h : mH} {L : List Int} {C : mQ} {X : mX} (hd : 3 ≤ d) (H : LI l h L) (hC : C (some (.inl (lS L k : Int))) h) : callG (wp G) d 36 0 0 4 [.inr (.inl (some l)), .inl (k : Int)] h C X := by
  have a1 := H.1.1
  have hl := wS_le L k
  have hb := lE_b L k
  refine cg 2 (by omega) (fun d hd => ?_)
  have hd0 : (0 < d) = True := eq_true (by omega)
  (repeat' (first | with_reducible assumption | (refine c_start H ?_) | (refine c_lastStepEnd (by omega) H ?_) | (refine And.intro ?_ ?_) | (with_reducible intro _) | (simp [wp_eq, wpE, mk_X4_lastStepStart, mg, mc_X4_lastStepStart, lget, lset, popN, cats, rcv, entL, isArr, kC_s, kC_n, st1, st2, st3, st4, st5, st6, st7, st8, st9, st10, st11, st12, st13, st14, st15, st16, st17, st18, st19, st20, st21, st22, st23, st24, st25, st26, st27, st28, st29, st30, st31, st32, st33, st34, st35, st36, st37, st38, st39, st40, st41, st42, st43, st44, st45, st46, st47, st48, st49, st50, st51, st52, st53, st54, st55, st56, st57, st58, st59, st60, st61, st62, st63, st64, st65, st66, st67, st68, st69, st70, st71, st72, st73, st74, st75, st76, st77, st78, st79, st80, st81, st82, st83, st84, st85, st86, st87, st88, st89, st90, st91, a1, hd0]))) <;> (try omega)
  exact lss_loop H (lE L k) (by omega) (by omega) hC
/-- the name at the end of a word, laid in a row of its own -/
def nmL (L : List Int) (k : Nat) : List Int := (L.drop (lS L k)).take (lE L k - lS L k)
theorem nmL_len (L : List Int) (k : Nat) : (nmL L k).length = lE L k - lS L k := by
  have := lE_b L k
  simp [nmL]; omega
theorem nmL_get {L : List Int} {k i : Nat} (h : i < lE L k - lS L k) : lf (nmL L k) i = lf L (lS L k + i) := by
  simp [lf, nmL, List.getElem?_take, h]
theorem c_lastStep {G : Nat → Nat} {d l k ms : Nat} {h : mH} {L : List Int} {C : mQ} {X : mX} (hd : 4 ≤ d) (H : LI l h L) (hm : lE L k - lS L k ≤ ms) (hz : ∀ a, hsz h ≤ a → hty h a = none)
    (hC : ∀ h', h' = hcpy (hpush h 21 (nmL L k).length) (l + 1) (lS L k) (hsz h) 0 (nmL L k).length → (∀ i, i < (nmL L k).length → hvi h' (hsz h) i = lf (nmL L k) i) → C (some (.inr (.inl (some (hsz h))))) h') : callG (wp G) d 37 1 ms 4 [.inr (.inl (some l)), .inl (k : Int)] h C X := by
  have hh := H
  obtain ⟨⟨a1, a2, a3, a4, a5, a6, a7⟩, ⟨b1, b2, b3, b4, b5⟩, b6⟩ := hh
  have hb := lE_b L k
  have hn := nmL_len L k
  have hl1 : l < hsz h := Nat.lt_of_not_le fun q => by have := hz l q; rw [a1] at this; cases this
  have hl2 : l + 1 < hsz h := Nat.lt_of_not_le fun q => by have := hz _ q; rw [a5] at this; cases this
  have e1 : ((lE L k : Int) - (lS L k : Int)).toNat = (nmL L k).length := by omega
  have e2 : (if lS L k < lE L k then (lE L k : Int) - (lS L k : Int) else 0) = ((nmL L k).length : Int) := by split <;> omega
  refine cg 3 (by omega) (fun d hd => ?_)
  have hd0 : (0 < d) = True := eq_true (by omega)
  (repeat' (first | with_reducible assumption | (refine c_lastStepStart (by omega) H ?_) | (refine c_lastStepEnd (by omega) H ?_) | (refine And.intro ?_ ?_) | (with_reducible intro _) | (simp [wp_eq, wpE, mk_X4_lastStep, mg, mc_X4_lastStep, lget, lset, popN, cats, rcv, entL, isArr, kC_s, kC_n, st1, st2, st3, st4, st5, st6, st7, st8, st9, st10, st11, st12, st13, st14, st15, st16, st17, st18, st19, st20, st21, st22, st23, st24, st25, st26, st27, st28, st29, st30, st31, st32, st33, st34, st35, st36, st37, st38, st39, st40, st41, st42, st43, st44, st45, st46, st47, st48, st49, st50, st51, st52, st53, st54, st55, st56, st57, st58, st59, st60, st61, st62, st63, st64, st65, st66, st67, st68, st69, st70, st71, st72, st73, st74, st75, st76, st77, st78, st79, st80, st81, st82, st83, st84, st85, st86, st87, st88, st89, st90, st91, a1, a2, hd0, e2, inR, hty_I, hvi_I, hvr_I, hvl_I, hsz_I, hty_R, hvi_R, hvr_R, hvl_R, hsz_R, hty_L, hvi_L, hvr_L, hvl_L, hsz_L, hty_P, hvi_P, hvr_P, hvl_P, hsz_P, hty_C, hvi_C, hvr_C, hvl_C, hsz_C, show ¬ l = hsz h by omega, show ¬ l + 1 = hsz h by omega, a5]))) <;> (try omega)
  refine hC _ (by congr 1) (fun i hi => ?_)
  rw [nmL_get (by omega), hvi_C, if_pos (by omega), hvi_P, if_neg (by omega)]
  exact b3 _ (by omega)
/-- does THE LINE begin with a PATH -/
def isPth (L : List Int) : Bool := decide (0 < (wds L).length) && !(lf (wd L 0) 0 == 45) && !(wd L 0 == [40]) && !(wd L 0 == [33])
theorem c_beginsWithPath {G : Nat → Nat} {d l : Nat} {h : mH} {L : List Int} {C : mQ} {X : mX} (hd : 7 ≤ d) (H : LI l h L) (hC : C (some (.inl (b01 (isPth L)))) h) : callG (wp G) d 34 0 0 3 [.inr (.inl (some l))] h C X := by
  have hh := H
  obtain ⟨⟨a1, a2, a3, a4, a5, a6, a7⟩, ⟨b1, b2, b3, b4, b5⟩, b6⟩ := hh
  refine cg 6 (by omega) (fun d hd => ?_)
  have hd0 : (0 < d) = True := eq_true (by omega)
  (repeat' (first | with_reducible assumption | (refine c_letter (k := 0) (i := 0) (by omega) H ?_) | (refine c_is (w := 0) (by omega) H (by decide) (by decide) ?_) | (refine And.intro ?_ ?_) | (with_reducible intro _) | (simp [wp_eq, wpE, mk_X4_beginsWithPath, mg, mc_X4_beginsWithPath, lget, lset, popN, cats, rcv, entL, isArr, kC_s, kC_n, st1, st2, st3, st4, st5, st6, st7, st8, st9, st10, st11, st12, st13, st14, st15, st16, st17, st18, st19, st20, st21, st22, st23, st24, st25, st26, st27, st28, st29, st30, st31, st32, st33, st34, st35, st36, st37, st38, st39, st40, st41, st42, st43, st44, st45, st46, st47, st48, st49, st50, st51, st52, st53, st54, st55, st56, st57, st58, st59, st60, st61, st62, st63, st64, st65, st66, st67, st68, st69, st70, st71, st72, st73, st74, st75, st76, st77, st78, st79, st80, st81, st82, st83, st84, st85, st86, st87, st88, st89, st90, st91, a1, hd0, b4]))) <;> (try omega)
  all_goals (simp_all [isPth, b01, sT, sTxt])
