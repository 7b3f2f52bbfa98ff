/-! THE STATE of the reference; new places -/
def RO (r : Nat) (h : mH) (O : List Int) : Prop := hvi h r 20 = (O.length : Int) ∧ O.length ≤ 1500 ∧ ro h (r + 16) 0 O ∧ bd O
def RS (r : Nat) (h : mH) (Es : Nat → List aE) (L : List Int) (T : aT) (here : Nat) (O : List Int) (cp bad : Int) : Prop := RN r h ∧ RP r h L ∧ (L.length ≤ 100 ∧ bd L) ∧ RT r h T Es here ∧ RC r h ∧ RO r h O ∧ hvi h r 21 = cp ∧ hvi h r 22 = bad
theorem RO_ch {r : Nat} {h h' : mH} {O : List Int} {l : List Nat} (q : chJ (sR r l) h h') (hl : ∀ c ∈ [0, 16, 120], ¬ c ∈ l) (H : RO r h O) : RO r h' O :=
  ⟨by rw [chJ_fld q (hl _ (by simp)) (hl _ (by simp))]; exact H.1, H.2.1, fun i hi => by rw [chJ_row q (by omega) (hl _ (by simp))]; exact H.2.2.1 i hi, H.2.2.2⟩
theorem RS_ch {r : Nat} {h h' : mH} {Es : Nat → List aE} {L : List Int} {T : aT} {here : Nat} {O : List Int} {cp bad : Int} {l : List Nat} (q : chJ (sR r l) h h') (hl : ∀ c ∈ [0, 1, 2, 3, 4, 5, 6, 7, 8, 9, 10, 11, 12, 13, 16, 113, 115, 120, 121, 122], ¬ c ∈ l) (H : RS r h Es L T here O cp bad) : RS r h' Es L T here O cp bad := by
  obtain ⟨h1, h2, h3, h4, h5, h6, h7, h8⟩ := H
  exact ⟨RN_ch q h1, RP_ch q (hl _ (by simp)) (hl _ (by simp)) (hl _ (by simp)) h2, h3, RT_ch q (fun c hc => hl c (by simp at hc ⊢; omega)) h4, fun j => by rw [chJ_row q (by omega) (hl _ (by simp))]; exact h5 j, RO_ch q (fun c hc => hl c (by simp at hc ⊢; omega)) h6, by rw [chJ_fld q (hl _ (by simp)) (hl _ (by simp))]; exact h7, by rw [chJ_fld q (hl _ (by simp)) (hl _ (by simp))]; exact h8⟩
theorem RW_ch {r : Nat} {h h' : mH} {L : List Int} {l : List Nat} (q : chJ (sR r l) h h') (hl : ∀ c ∈ [0, 14, 15, 116], ¬ c ∈ l) (H : RW r h L) : RW r h' L :=
  ⟨by rw [chJ_fld q (hl _ (by simp)) (hl _ (by simp))]; exact H.1, fun k hk => by rw [chJ_row q (by omega) (hl _ (by simp)), chJ_row q (by omega) (hl _ (by simp))]; exact H.2 k hk⟩
theorem frF_all {T : aT} : ∀ k, k ≤ 48 → (frF T k = 48 ∧ ∀ n, 48 - k ≤ n → n < 48 → ¬ T n = none) ∨ (frF T k < 48 ∧ 48 - k ≤ frF T k ∧ T (frF T k) = none ∧ ∀ m, 48 - k ≤ m → m < frF T k → ¬ T m = none) := by
  intro k
  induction k with
  | zero => intro _; left; exact ⟨rfl, fun n h1 h2 => by omega⟩
  | succ k ih =>
    intro hk
    simp only [frF]
    by_cases hT : T (48 - (k + 1)) = none
    · rw [if_pos hT]; right; exact ⟨by omega, Nat.le_refl _, hT, fun m h1 h2 => by omega⟩
    · rw [if_neg hT]
      rcases ih (by omega) with ⟨h1, h2⟩ | ⟨h1, h2, h3, h4⟩
      · left
        refine ⟨h1, fun n n1 n2 => ?_⟩
        by_cases he : n = 48 - (k + 1)
        · rw [he]; exact hT
        · exact h2 n (by omega) n2
      · right
        refine ⟨h1, by omega, h3, fun m m1 m2 => ?_⟩
        by_cases he : m = 48 - (k + 1)
        · rw [he]; exact hT
        · exact h4 m (by omega) m2
theorem cnt_full {T : aT} {n : Nat} (h : T n = none) : ∀ N, n < N → cnt T N < N := by
  intro N
  induction N with
  | zero => intro q; omega
  | succ N ih =>
    intro q
    simp only [cnt]
    by_cases he : N = n
    · subst he; rw [h]; have := cnt_le T N; simp; omega
    · have := ih (by omega); split <;> omega
theorem frF_lt {T : aT} (h : cnt T 48 < 48) : frF T 48 < 48 ∧ T (frF T 48) = none := by
  rcases frF_all (T := T) 48 (by omega) with ⟨h1, h2⟩ | ⟨h1, h2, h3, h4⟩
  · obtain ⟨n, n1, n2⟩ := cnt_free 48 h
    exact absurd n2 (h2 n (by omega) n1)
  · exact ⟨h1, h3⟩
theorem frF_ge {T : aT} (h : 48 ≤ cnt T 48) : frF T 48 = 48 := by
  rcases frF_all (T := T) 48 (by omega) with ⟨h1, h2⟩ | ⟨h1, h2, h3, h4⟩
  · exact h1
  · have := cnt_full h3 48 h1; omega
theorem bits3 {b : Int} (h : 0 ≤ b ∧ b ≤ 7) : bAnd b 3 = 3 ↔ ¬ (bAnd b 2 = 0 ∨ bAnd b 1 = 0) := by
  have : b = 0 ∨ b = 1 ∨ b = 2 ∨ b = 3 ∨ b = 4 ∨ b = 5 ∨ b = 6 ∨ b = 7 := by omega
  rcases this with rfl | rfl | rfl | rfl | rfl | rfl | rfl | rfl <;> decide
theorem rnp1 {G : Nat → Nat} {d r k s : Nat} {h : mH} {C : mQ} {X : mX} {L : List Int} {x2 x4 x5 : Option mV} (HR : RN r h) (HP : RP r h L) (hl : L.length ≤ 100) (hk : k < 52) (hw : hvi h (r + 14) k = (s : Int)) : ∀ e : Nat, s ≤ e → e ≤ L.length → wp G d 109 47 [some (.inr (.inl (some r))), some (.inl (k : Int)), x2, some (.inl (lsE (lf L) s e : Int)), x4, x5] [] h 0 0 C X →
    wp G d 109 100018 [some (.inr (.inl (some r))), some (.inl (k : Int)), x2, some (.inl (e : Int)), x4, x5] [] h 0 0 C X := by
  have R0 := HR.1; have R_kinds := rn_kinds HR; have R_bitsOf := rn_bitsOf HR; have R_many := rn_many HR; have R_line := rn_line HR; have R_begins := rn_begins HR; have R_ends := rn_ends HR
  intro e
  induction e with
  | zero =>
    intro hs he hz
    simp [lsE] at hz
    rw [wp_hd]
    (repeat' (first | with_reducible assumption | (refine And.intro ?_ ?_) | (with_reducible intro _) | (simp [wp_ne 47, wpE, mk_X11_newPlace, mg, mc_X11_newPlace, lget, lset, popN, cats, rcv, entL, isArr, kC_s, kC_n, st1, st2, st3, st4, st5, st6, st7, st8, st9, st10, st11, st12, st13, st14, st15, st16, st17, st18, st19, st20, st21, st22, st23, st24, st25, st26, st27, st28, st29, st30, st31, st32, st33, st34, st35, st36, st37, st38, st39, st40, st41, st42, st43, st44, st45, st46, st47, st48, st49, st50, st51, st52, st53, st54, st55, st56, st57, st58, st59, st60, st61, st62, st63, st64, st65, st66, st67, st68, st69, st70, st71, st72, st73, st74, st75, st76, st77, st78, st79, st80, st81, st82, st83, st84, st85, st86, st87, st88, st89, st90, st91, R0, R_kinds, R_bitsOf, R_many, R_line, R_begins, R_ends, hw]))) <;> (try (first | omega | exact hz))
  | succ e ih =>
    intro hs he hz
    have hc := HP.2 e (by omega) (by omega)
    have e1 : ((e + 1 : Nat) : Int) - 1 = (e : Int) := by omega
    have e2 : ((e + 1 : Nat) : Int) + -1 = (e : Int) := by omega
    simp only [lsE] at hz
    rw [wp_hd]
    by_cases h1 : s < e + 1
    · have h1' : (s : Int) < ((e + 1 : Nat) : Int) := by omega
      by_cases h47 : lf L e = 47
      · rw [if_pos ⟨h1, h47⟩] at hz
        have hz := ih (by omega) (by omega) hz
        (repeat' (first | with_reducible assumption | (refine And.intro ?_ ?_) | (with_reducible intro _) | (simp [wp_ne 47, wpE, mk_X11_newPlace, mg, mc_X11_newPlace, lget, lset, popN, cats, rcv, entL, isArr, kC_s, kC_n, st1, st2, st3, st4, st5, st6, st7, st8, st9, st10, st11, st12, st13, st14, st15, st16, st17, st18, st19, st20, st21, st22, st23, st24, st25, st26, st27, st28, st29, st30, st31, st32, st33, st34, st35, st36, st37, st38, st39, st40, st41, st42, st43, st44, st45, st46, st47, st48, st49, st50, st51, st52, st53, st54, st55, st56, st57, st58, st59, st60, st61, st62, st63, st64, st65, st66, st67, st68, st69, st70, st71, st72, st73, st74, st75, st76, st77, st78, st79, st80, st81, st82, st83, st84, st85, st86, st87, st88, st89, st90, st91, R0, R_kinds, R_bitsOf, R_many, R_line, R_begins, R_ends, -Int.natCast_add, hw, h1', e1, e2, hc, h47, inR]))) <;> (try (first | omega | exact hz))
      · rw [if_neg (fun q => h47 q.2)] at hz
        (repeat' (first | with_reducible assumption | (refine And.intro ?_ ?_) | (with_reducible intro _) | (simp [wp_ne 47, wpE, mk_X11_newPlace, mg, mc_X11_newPlace, lget, lset, popN, cats, rcv, entL, isArr, kC_s, kC_n, st1, st2, st3, st4, st5, st6, st7, st8, st9, st10, st11, st12, st13, st14, st15, st16, st17, st18, st19, st20, st21, st22, st23, st24, st25, st26, st27, st28, st29, st30, st31, st32, st33, st34, st35, st36, st37, st38, st39, st40, st41, st42, st43, st44, st45, st46, st47, st48, st49, st50, st51, st52, st53, st54, st55, st56, st57, st58, st59, st60, st61, st62, st63, st64, st65, st66, st67, st68, st69, st70, st71, st72, st73, st74, st75, st76, st77, st78, st79, st80, st81, st82, st83, st84, st85, st86, st87, st88, st89, st90, st91, R0, R_kinds, R_bitsOf, R_many, R_line, R_begins, R_ends, -Int.natCast_add, hw, h1', e1, e2, hc, h47, inR]))) <;> (try (first | omega | exact hz))
    · have h1' : ¬ (s : Int) < ((e + 1 : Nat) : Int) := by omega
      rw [if_neg (fun q => h1 q.1)] at hz
      (repeat' (first | with_reducible assumption | (refine And.intro ?_ ?_) | (with_reducible intro _) | (simp [wp_ne 47, wpE, mk_X11_newPlace, mg, mc_X11_newPlace, lget, lset, popN, cats, rcv, entL, isArr, kC_s, kC_n, st1, st2, st3, st4, st5, st6, st7, st8, st9, st10, st11, st12, st13, st14, st15, st16, st17, st18, st19, st20, st21, st22, st23, st24, st25, st26, st27, st28, st29, st30, st31, st32, st33, st34, st35, st36, st37, st38, st39, st40, st41, st42, st43, st44, st45, st46, st47, st48, st49, st50, st51, st52, st53, st54, st55, st56, st57, st58, st59, st60, st61, st62, st63, st64, st65, st66, st67, st68, st69, st70, st71, st72, st73, st74, st75, st76, st77, st78, st79, st80, st81, st82, st83, st84, st85, st86, st87, st88, st89, st90, st91, R0, R_kinds, R_bitsOf, R_many, R_line, R_begins, R_ends, -Int.natCast_add, hw, h1', inR]))) <;> (try (first | omega | exact hz))
theorem rnp2 {G : Nat → Nat} {d r k s : Nat} {h : mH} {C : mQ} {X : mX} {L : List Int} {x2 x3 x5 : Option mV} (HR : RN r h) (HP : RP r h L) (hl : L.length ≤ 100) (hk : k < 52) (hw : hvi h (r + 14) k = (s : Int)) : ∀ e : Nat, s ≤ e → e ≤ L.length → wp G d 109 81 [some (.inr (.inl (some r))), some (.inl (k : Int)), x2, x3, some (.inl (lsS (lf L) s e : Int)), x5] [] h 0 0 C X →
    wp G d 109 100050 [some (.inr (.inl (some r))), some (.inl (k : Int)), x2, x3, some (.inl (e : Int)), x5] [] h 0 0 C X := by
  have R0 := HR.1; have R_kinds := rn_kinds HR; have R_bitsOf := rn_bitsOf HR; have R_many := rn_many HR; have R_line := rn_line HR; have R_begins := rn_begins HR; have R_ends := rn_ends HR
  intro e
  induction e with
  | zero =>
    intro hs he hz
    simp [lsS] at hz
    rw [wp_hd]
    (repeat' (first | with_reducible assumption | (refine And.intro ?_ ?_) | (with_reducible intro _) | (simp [wp_ne 81, wpE, mk_X11_newPlace, mg, mc_X11_newPlace, lget, lset, popN, cats, rcv, entL, isArr, kC_s, kC_n, st1, st2, st3, st4, st5, st6, st7, st8, st9, st10, st11, st12, st13, st14, st15, st16, st17, st18, st19, st20, st21, st22, st23, st24, st25, st26, st27, st28, st29, st30, st31, st32, st33, st34, st35, st36, st37, st38, st39, st40, st41, st42, st43, st44, st45, st46, st47, st48, st49, st50, st51, st52, st53, st54, st55, st56, st57, st58, st59, st60, st61, st62, st63, st64, st65, st66, st67, st68, st69, st70, st71, st72, st73, st74, st75, st76, st77, st78, st79, st80, st81, st82, st83, st84, st85, st86, st87, st88, st89, st90, st91, R0, R_kinds, R_bitsOf, R_many, R_line, R_begins, R_ends, hw]))) <;> (try (first | omega | exact hz))
  | succ e ih =>
    intro hs he hz
    have hc := HP.2 e (by omega) (by omega)
    have e1 : ((e + 1 : Nat) : Int) - 1 = (e : Int) := by omega
    have e2 : ((e + 1 : Nat) : Int) + -1 = (e : Int) := by omega
    simp only [lsS] at hz
    rw [wp_hd]
    by_cases h1 : s < e + 1
    · have h1' : (s : Int) < ((e + 1 : Nat) : Int) := by omega
      by_cases h47 : lf L e = 47
      · rw [if_neg (fun q => q.2 h47)] at hz
        (repeat' (first | with_reducible assumption | (refine And.intro ?_ ?_) | (with_reducible intro _) | (simp [wp_ne 81, wpE, mk_X11_newPlace, mg, mc_X11_newPlace, lget, lset, popN, cats, rcv, entL, isArr, kC_s, kC_n, st1, st2, st3, st4, st5, st6, st7, st8, st9, st10, st11, st12, st13, st14, st15, st16, st17, st18, st19, st20, st21, st22, st23, st24, st25, st26, st27, st28, st29, st30, st31, st32, st33, st34, st35, st36, st37, st38, st39, st40, st41, st42, st43, st44, st45, st46, st47, st48, st49, st50, st51, st52, st53, st54, st55, st56, st57, st58, st59, st60, st61, st62, st63, st64, st65, st66, st67, st68, st69, st70, st71, st72, st73, st74, st75, st76, st77, st78, st79, st80, st81, st82, st83, st84, st85, st86, st87, st88, st89, st90, st91, R0, R_kinds, R_bitsOf, R_many, R_line, R_begins, R_ends, -Int.natCast_add, hw, h1', e1, e2, hc, h47, inR]))) <;> (try (first | omega | exact hz))
      · rw [if_pos ⟨h1, h47⟩] at hz
        have hz := ih (by omega) (by omega) hz
        (repeat' (first | with_reducible assumption | (refine And.intro ?_ ?_) | (with_reducible intro _) | (simp [wp_ne 81, wpE, mk_X11_newPlace, mg, mc_X11_newPlace, lget, lset, popN, cats, rcv, entL, isArr, kC_s, kC_n, st1, st2, st3, st4, st5, st6, st7, st8, st9, st10, st11, st12, st13, st14, st15, st16, st17, st18, st19, st20, st21, st22, st23, st24, st25, st26, st27, st28, st29, st30, st31, st32, st33, st34, st35, st36, st37, st38, st39, st40, st41, st42, st43, st44, st45, st46, st47, st48, st49, st50, st51, st52, st53, st54, st55, st56, st57, st58, st59, st60, st61, st62, st63, st64, st65, st66, st67, st68, st69, st70, st71, st72, st73, st74, st75, st76, st77, st78, st79, st80, st81, st82, st83, st84, st85, st86, st87, st88, st89, st90, st91, R0, R_kinds, R_bitsOf, R_many, R_line, R_begins, R_ends, -Int.natCast_add, hw, h1', e1, e2, hc, h47, inR]))) <;> (try (first | omega | exact hz))
    · have h1' : ¬ (s : Int) < ((e + 1 : Nat) : Int) := by omega
      rw [if_neg (fun q => h1 q.1)] at hz
      (repeat' (first | with_reducible assumption | (refine And.intro ?_ ?_) | (with_reducible intro _) | (simp [wp_ne 81, wpE, mk_X11_newPlace, mg, mc_X11_newPlace, lget, lset, popN, cats, rcv, entL, isArr, kC_s, kC_n, st1, st2, st3, st4, st5, st6, st7, st8, st9, st10, st11, st12, st13, st14, st15, st16, st17, st18, st19, st20, st21, st22, st23, st24, st25, st26, st27, st28, st29, st30, st31, st32, st33, st34, st35, st36, st37, st38, st39, st40, st41, st42, st43, st44, st45, st46, st47, st48, st49, st50, st51, st52, st53, st54, st55, st56, st57, st58, st59, st60, st61, st62, st63, st64, st65, st66, st67, st68, st69, st70, st71, st72, st73, st74, st75, st76, st77, st78, st79, st80, st81, st82, st83, st84, st85, st86, st87, st88, st89, st90, st91, R0, R_kinds, R_bitsOf, R_many, R_line, R_begins, R_ends, -Int.natCast_add, hw, h1', inR]))) <;> (try (first | omega | exact hz))
theorem r_nameAtZ {G : Nat → Nat} {d r a s N n : Nat} {z : Int} {h : mH} {C : mQ} {X : mX} {w : List Int} {E : List aE} (hz : z = ((s + w.length : Nat) : Int)) (hd : 2 ≤ d) (hn : n < 48) (HR : RN r h) (H : RE r h n E) (bw : bd w) (ht : hty h a = some (21, N)) (hN : s + w.length ≤ N) (hN2 : N ≤ 60000) (hr : ro h a s w) (hC : C (some (.inl (ixR n (ixF w 0 E)))) h) :
    callG (wp G) d 102 0 0 6 [.inr (.inl (some r)), .inl (n : Int), .inr (.inl (some a)), .inl (s : Int), .inl z] h C X := by subst hz; exact r_nameAt hd hn HR H bw ht hN hN2 hr hC
theorem rnp_rest {G : Nat → Nat} {d r k : Nat} {h : mH} {C : mQ} {X : mX} {Es : Nat → List aE} {L : List Int} {T : aT} {here : Nat} {O : List Int} {cp bad z : Int} {fn : Bool} {x1 : Option mV} (hd : 3 ≤ d) (H : RS r h Es L T here O cp bad) (hw : wf T here) (hz0 : z < 0 ∨ ∃ n : Nat, n < 48 ∧ z = (n : Int)) (hC : C (some (.inl (npR T L k fn z))) h) :
    wp G d 109 144 [some (.inr (.inl (some r))), x1, some (.inl (b01 fn)), some (.inl (lE L k : Int)), some (.inl (lS L k : Int)), some (.inl z)] [] h 0 0 C X := by
  have hd0 : (0 < d) = True := eq_true (by omega)
  obtain ⟨HR, HP, ⟨hl, bL⟩, HT, HC, HO, h7, h8⟩ := H
  have R0 := HR.1; have R_kinds := rn_kinds HR; have R_bitsOf := rn_bitsOf HR; have R_many := rn_many HR; have R_line := rn_line HR; have R_begins := rn_begins HR; have R_ends := rn_ends HR
  obtain ⟨g1, g2, g3⟩ := HT
  have hb := lE_b L k
  have hnl := nmL_len L k
  have hE : (lE L k : Int) = ((lS L k + (nmL L k).length : Nat) : Int) := by omega
  have hro : ro h (r + 13) (lS L k) (nmL L k) := fun i hi => by rw [nmL_get (by omega)]; exact HP.2 _ (by omega) (by omega)
  unfold npR at hC
  rcases hz0 with hn | ⟨n, hn, rfl⟩
  · rw [if_pos hn] at hC
    (repeat' (first | with_reducible assumption | (refine And.intro ?_ ?_) | (with_reducible intro _) | (simp [wp_eq, wpE, mk_X11_newPlace, mg, mc_X11_newPlace, lget, lset, popN, cats, rcv, entL, isArr, kC_s, kC_n, st1, st2, st3, st4, st5, st6, st7, st8, st9, st10, st11, st12, st13, st14, st15, st16, st17, st18, st19, st20, st21, st22, st23, st24, st25, st26, st27, st28, st29, st30, st31, st32, st33, st34, st35, st36, st37, st38, st39, st40, st41, st42, st43, st44, st45, st46, st47, st48, st49, st50, st51, st52, st53, st54, st55, st56, st57, st58, st59, st60, st61, st62, st63, st64, st65, st66, st67, st68, st69, st70, st71, st72, st73, st74, st75, st76, st77, st78, st79, st80, st81, st82, st83, st84, st85, st86, st87, st88, st89, st90, st91, R0, R_kinds, R_bitsOf, R_many, R_line, R_begins, R_ends, hn]))) <;> (try (first | omega | exact hz))
  · rw [if_neg (by omega)] at hC
    simp only [Int.toNat_natCast] at hC
    have gk := g2 n hn
    by_cases hk0 : tK T n = 0
    · rw [if_neg (fun q => q hk0)] at hC
      obtain ⟨v, hT, hkv⟩ := tK_ge hk0
      obtain ⟨-, -, -, f4, -⟩ := g3 n v hn hT
      obtain ⟨f5, f6, f7, f8⟩ := f4 hkv
      have hN := hw.2.2.2.1 n v hT
      have hb3 := bits3 hN.2.2.2.2.2.2.2.2.1
      have h12 := hN.2.2.2.2.2.1
      have hp := lkE_perm (s := nmL L k) f8 (unq_perm f8.symm (srt_unq hN.2.2.2.2.1))
      have hpl := f8.length_eq
      have f9 := f7.1
      simp only [tB_some hT, tE_some hT] at hC
      by_cases hbb : bAnd (nB v) 2 = 0 ∨ bAnd (nB v) 1 = 0
      · rw [if_pos hbb] at hC
        have hb3' : ¬ bAnd (nB v) 3 = 3 := fun q => hb3.mp q hbb
        (repeat' (first | with_reducible assumption | (refine And.intro ?_ ?_) | (with_reducible intro _) | (simp [wp_eq, wpE, mk_X11_newPlace, mg, mc_X11_newPlace, lget, lset, popN, cats, rcv, entL, isArr, kC_s, kC_n, st1, st2, st3, st4, st5, st6, st7, st8, st9, st10, st11, st12, st13, st14, st15, st16, st17, st18, st19, st20, st21, st22, st23, st24, st25, st26, st27, st28, st29, st30, st31, st32, st33, st34, st35, st36, st37, st38, st39, st40, st41, st42, st43, st44, st45, st46, st47, st48, st49, st50, st51, st52, st53, st54, st55, st56, st57, st58, st59, st60, st61, st62, st63, st64, st65, st66, st67, st68, st69, st70, st71, st72, st73, st74, st75, st76, st77, st78, st79, st80, st81, st82, st83, st84, st85, st86, st87, st88, st89, st90, st91, R0, R_kinds, R_bitsOf, R_many, R_line, R_begins, R_ends, gk, hk0, f5, hb3']))) <;> (try (first | omega | exact hz))
      · rw [if_neg hbb] at hC
        have hb3' := hb3.mpr hbb
        cases hix : ixF (nmL L k) 0 (Es n) with
        | some i =>
          obtain ⟨m, j, q1, q2, q3⟩ := ixF_some _ _ _ _ hix
          rw [← hp, q3, if_pos (by simp)] at hC
          have hixr : ixR n (ixF (nmL L k) 0 (Es n)) = ((12 * n + i : Nat) : Int) := by rw [hix]; rfl
          have hixn : ¬ ((12 * n + i : Nat) : Int) < 0 := by omega
          (repeat' (first | with_reducible assumption | (refine r_nameAtZ (s := lS L k) (w := nmL L k) hE (by omega) hn HR f7 (nmL_b bL k) R_line.2 (by omega) (by omega) hro ?_) | (refine And.intro ?_ ?_) | (with_reducible intro _) | (simp [wp_eq, wpE, mk_X11_newPlace, mg, mc_X11_newPlace, lget, lset, popN, cats, rcv, entL, isArr, kC_s, kC_n, st1, st2, st3, st4, st5, st6, st7, st8, st9, st10, st11, st12, st13, st14, st15, st16, st17, st18, st19, st20, st21, st22, st23, st24, st25, st26, st27, st28, st29, st30, st31, st32, st33, st34, st35, st36, st37, st38, st39, st40, st41, st42, st43, st44, st45, st46, st47, st48, st49, st50, st51, st52, st53, st54, st55, st56, st57, st58, st59, st60, st61, st62, st63, st64, st65, st66, st67, st68, st69, st70, st71, st72, st73, st74, st75, st76, st77, st78, st79, st80, st81, st82, st83, st84, st85, st86, st87, st88, st89, st90, st91, R0, R_kinds, R_bitsOf, R_many, R_line, R_begins, R_ends, -Int.natCast_add, -Int.natCast_mul, gk, hk0, f5, hb3', hd0, hixr, hixn]))) <;> (try (first | omega | exact hz))
        | none =>
          rw [← hp, ixF_none _ _ _ hix, if_neg (by simp)] at hC
          have hixr : ixR n (ixF (nmL L k) 0 (Es n)) = -1 := by rw [hix]; rfl
          by_cases hnm : 12 ≤ (nE v).length
          · rw [if_pos (Or.inl hnm)] at hC
            have hnm' : (Es n).length = 12 := by omega
            (repeat' (first | with_reducible assumption | (refine r_nameAtZ (s := lS L k) (w := nmL L k) hE (by omega) hn HR f7 (nmL_b bL k) R_line.2 (by omega) (by omega) hro ?_) | (refine And.intro ?_ ?_) | (with_reducible intro _) | (simp [wp_eq, wpE, mk_X11_newPlace, mg, mc_X11_newPlace, lget, lset, popN, cats, rcv, entL, isArr, kC_s, kC_n, st1, st2, st3, st4, st5, st6, st7, st8, st9, st10, st11, st12, st13, st14, st15, st16, st17, st18, st19, st20, st21, st22, st23, st24, st25, st26, st27, st28, st29, st30, st31, st32, st33, st34, st35, st36, st37, st38, st39, st40, st41, st42, st43, st44, st45, st46, st47, st48, st49, st50, st51, st52, st53, st54, st55, st56, st57, st58, st59, st60, st61, st62, st63, st64, st65, st66, st67, st68, st69, st70, st71, st72, st73, st74, st75, st76, st77, st78, st79, st80, st81, st82, st83, st84, st85, st86, st87, st88, st89, st90, st91, R0, R_kinds, R_bitsOf, R_many, R_line, R_begins, R_ends, gk, hk0, f5, f9, hb3', hd0, hixr, hnm']))) <;> (try (first | omega | exact hz))
          · have hnm' : ¬ (Es n).length = 12 := by omega
            cases fn
            · rw [if_neg (by simp; omega)] at hC
              (repeat' (first | with_reducible assumption | (refine r_nameAtZ (s := lS L k) (w := nmL L k) hE (by omega) hn HR f7 (nmL_b bL k) R_line.2 (by omega) (by omega) hro ?_) | (refine And.intro ?_ ?_) | (with_reducible intro _) | (simp [wp_eq, wpE, mk_X11_newPlace, mg, mc_X11_newPlace, lget, lset, popN, cats, rcv, entL, isArr, kC_s, kC_n, st1, st2, st3, st4, st5, st6, st7, st8, st9, st10, st11, st12, st13, st14, st15, st16, st17, st18, st19, st20, st21, st22, st23, st24, st25, st26, st27, st28, st29, st30, st31, st32, st33, st34, st35, st36, st37, st38, st39, st40, st41, st42, st43, st44, st45, st46, st47, st48, st49, st50, st51, st52, st53, st54, st55, st56, st57, st58, st59, st60, st61, st62, st63, st64, st65, st66, st67, st68, st69, st70, st71, st72, st73, st74, st75, st76, st77, st78, st79, st80, st81, st82, st83, st84, st85, st86, st87, st88, st89, st90, st91, R0, R_kinds, R_bitsOf, R_many, R_line, R_begins, R_ends, gk, hk0, f5, f9, hb3', hd0, hixr, hnm', b01]))) <;> (try (first | omega | exact hz))
            · have hpos : ∀ n v, n < 48 → T n = some v → 0 ≤ nK v := fun n v _ hT => by have := (hw.2.2.2.1 n v hT).1; omega
              by_cases hct : 48 ≤ cnt T 48
              · rw [if_pos (Or.inr ⟨rfl, hct⟩)] at hC
                have hff : frI (frF T 48) = -1 := by rw [frF_ge hct]; rfl
                (repeat' (first | with_reducible assumption | (refine r_nameAtZ (s := lS L k) (w := nmL L k) hE (by omega) hn HR f7 (nmL_b bL k) R_line.2 (by omega) (by omega) hro ?_) | (refine r_freeNode HR g2 hpos ?_) | (refine And.intro ?_ ?_) | (with_reducible intro _) | (simp [wp_eq, wpE, mk_X11_newPlace, mg, mc_X11_newPlace, lget, lset, popN, cats, rcv, entL, isArr, kC_s, kC_n, st1, st2, st3, st4, st5, st6, st7, st8, st9, st10, st11, st12, st13, st14, st15, st16, st17, st18, st19, st20, st21, st22, st23, st24, st25, st26, st27, st28, st29, st30, st31, st32, st33, st34, st35, st36, st37, st38, st39, st40, st41, st42, st43, st44, st45, st46, st47, st48, st49, st50, st51, st52, st53, st54, st55, st56, st57, st58, st59, st60, st61, st62, st63, st64, st65, st66, st67, st68, st69, st70, st71, st72, st73, st74, st75, st76, st77, st78, st79, st80, st81, st82, st83, st84, st85, st86, st87, st88, st89, st90, st91, R0, R_kinds, R_bitsOf, R_many, R_line, R_begins, R_ends, gk, hk0, f5, f9, hb3', hd0, hixr, hnm', b01, hff]))) <;> (try (first | omega | exact hz))
              · rw [if_neg (by simp [hct]; omega)] at hC
                have hff : ¬ frI (frF T 48) < 0 := by have := (frF_lt (T := T) (by omega)).1; unfold frI; rw [if_neg (by omega)]; omega
                (repeat' (first | with_reducible assumption | (refine r_nameAtZ (s := lS L k) (w := nmL L k) hE (by omega) hn HR f7 (nmL_b bL k) R_line.2 (by omega) (by omega) hro ?_) | (refine r_freeNode HR g2 hpos ?_) | (refine And.intro ?_ ?_) | (with_reducible intro _) | (simp [wp_eq, wpE, mk_X11_newPlace, mg, mc_X11_newPlace, lget, lset, popN, cats, rcv, entL, isArr, kC_s, kC_n, st1, st2, st3, st4, st5, st6, st7, st8, st9, st10, st11, st12, st13, st14, st15, st16, st17, st18, st19, st20, st21, st22, st23, st24, st25, st26, st27, st28, st29, st30, st31, st32, st33, st34, st35, st36, st37, st38, st39, st40, st41, st42, st43, st44, st45, st46, st47, st48, st49, st50, st51, st52, st53, st54, st55, st56, st57, st58, st59, st60, st61, st62, st63, st64, st65, st66, st67, st68, st69, st70, st71, st72, st73, st74, st75, st76, st77, st78, st79, st80, st81, st82, st83, st84, st85, st86, st87, st88, st89, st90, st91, R0, R_kinds, R_bitsOf, R_many, R_line, R_begins, R_ends, gk, hk0, f5, f9, hb3', hd0, hixr, hnm', b01, hff]))) <;> (try (first | omega | exact hz))
    · rw [if_pos hk0] at hC
      (repeat' (first | with_reducible assumption | (refine And.intro ?_ ?_) | (with_reducible intro _) | (simp [wp_eq, wpE, mk_X11_newPlace, mg, mc_X11_newPlace, lget, lset, popN, cats, rcv, entL, isArr, kC_s, kC_n, st1, st2, st3, st4, st5, st6, st7, st8, st9, st10, st11, st12, st13, st14, st15, st16, st17, st18, st19, st20, st21, st22, st23, st24, st25, st26, st27, st28, st29, st30, st31, st32, st33, st34, st35, st36, st37, st38, st39, st40, st41, st42, st43, st44, st45, st46, st47, st48, st49, st50, st51, st52, st53, st54, st55, st56, st57, st58, st59, st60, st61, st62, st63, st64, st65, st66, st67, st68, st69, st70, st71, st72, st73, st74, st75, st76, st77, st78, st79, st80, st81, st82, st83, st84, st85, st86, st87, st88, st89, st90, st91, R0, R_kinds, R_bitsOf, R_many, R_line, R_begins, R_ends, gk, hk0]))) <;> (try (first | omega | exact hz))
theorem r_layWayZ {G : Nat → Nat} {d r o : Nat} {z : Int} {h : mH} {C : mQ} {X : mX} {w : List Int} (hz : z = ((o + w.length : Nat) : Int)) (HR : RN r h) (bw : bd w) (hN : o + w.length ≤ 100) (hr : ro h (r + 13) o w)
    (hC : ∀ h', chJ (sR r [17, 125]) h h' → hvi h' r 25 = (w.length : Int) → ro h' (r + 17) 0 w → C none h') :
    callG (wp G) d 105 0 0 4 [.inr (.inl (some r)), .inl (o : Int), .inl z] h C X := by subst hz; exact r_layWay HR bw hN hr hC
theorem r_newPlace {G : Nat → Nat} {d r k : Nat} {h : mH} {C : mQ} {X : mX} {Es : Nat → List aE} {L : List Int} {T : aT} {here : Nat} {O : List Int} {cp bad : Int} {fn : Bool} (hd : 6 ≤ d) (H : RS r h Es L T here O cp bad) (HW : RW r h L) (hw : wf T here)
    (hC : ∀ h', chJ (sR r [17, 18, 125, 126, 151, 152]) h h' → (0 ≤ npl T here L k fn → hvi h' r 51 = (lS L k : Int) ∧ hvi h' r 52 = (lE L k : Int)) → C (some (.inl (npl T here L k fn))) h') :
    callG (wp G) d 109 0 0 6 [.inr (.inl (some r)), .inl (k : Int), .inl (b01 fn)] h C X := by
  have HH := H
  obtain ⟨HR, HP, ⟨hl, bL⟩, HT, HC, HO, h7, h8⟩ := HH
  have R0 := HR.1; have R_kinds := rn_kinds HR; have R_bitsOf := rn_bitsOf HR; have R_many := rn_many HR; have R_line := rn_line HR; have R_begins := rn_begins HR; have R_ends := rn_ends HR
  have hb := lE_b L k
  have hnl := nmL_len L k
  have hpl := npW_len L k
  have h16 := HW.1
  have h50 := wds_len hl
  have h13 := HT.1
  refine cg 5 (by omega) (fun d hd => ?_)
  have hd0 : (0 < d) = True := eq_true (by omega)
  by_cases hk : k < (wds L).length
  · have hwS := (HW.2 k hk).1
    have hwE := (HW.2 k hk).2
    have hat := wds_at hk
    simp [wp_eq, wpE, mk_X11_newPlace, mg, mc_X11_newPlace, lget, lset, popN, cats, rcv, entL, isArr, kC_s, kC_n, st1, st2, st3, st4, st5, st6, st7, st8, st9, st10, st11, st12, st13, st14, st15, st16, st17, st18, st19, st20, st21, st22, st23, st24, st25, st26, st27, st28, st29, st30, st31, st32, st33, st34, st35, st36, st37, st38, st39, st40, st41, st42, st43, st44, st45, st46, st47, st48, st49, st50, st51, st52, st53, st54, st55, st56, st57, st58, st59, st60, st61, st62, st63, st64, st65, st66, st67, st68, st69, st70, st71, st72, st73, st74, st75, st76, st77, st78, st79, st80, st81, st82, st83, st84, st85, st86, st87, st88, st89, st90, st91, R0, R_ends, h16, hk, hwE]
    refine ⟨by omega, rnp1 HR HP hl (by omega) hwS (wE L k) (by omega) (by omega) ?_⟩
    change wp G d 109 47 [_, _, _, some (.inl (lE L k : Int)), _, _] [] h 0 0 C _
    simp [wp_eq, wpE, mk_X11_newPlace, mg, mc_X11_newPlace, lget, lset, popN, cats, rcv, entL, isArr, kC_s, kC_n, st1, st2, st3, st4, st5, st6, st7, st8, st9, st10, st11, st12, st13, st14, st15, st16, st17, st18, st19, st20, st21, st22, st23, st24, st25, st26, st27, st28, st29, st30, st31, st32, st33, st34, st35, st36, st37, st38, st39, st40, st41, st42, st43, st44, st45, st46, st47, st48, st49, st50, st51, st52, st53, st54, st55, st56, st57, st58, st59, st60, st61, st62, st63, st64, st65, st66, st67, st68, st69, st70, st71, st72, st73, st74, st75, st76, st77, st78, st79, st80, st81, st82, st83, st84, st85, st86, st87, st88, st89, st90, st91]
    refine rnp2 HR HP hl (by omega) hwS (lE L k) (by omega) (by omega) ?_
    change wp G d 109 81 [_, _, _, _, some (.inl (lS L k : Int)), _] [] h 0 0 C _
    have hE : (lE L k : Int) = ((lS L k + (nmL L k).length : Nat) : Int) := by omega
    have hro : ro h (r + 13) (lS L k) (nmL L k) := fun i hi => by rw [nmL_get (by omega)]; exact HP.2 _ (by omega) (by omega)
    have hisn : ∀ {C : mQ} {X : mX}, C (some (.inl (b01 (isNm (nmL L k))))) h → callG (wp G) d 100 0 0 6 [.inr (.inl (some (r + 13))), .inl (lS L k : Int), .inl (lE L k : Int)] h C X := fun {C X} q => by rw [hE]; exact r_isName (by omega) R_line.2 (by omega) (by omega) hro q
    cases hnm : isNm (nmL L k) with
    | false =>
      have hv : npl T here L k fn = -6 := by unfold npl; rw [if_neg (fun q => q hk), if_pos hnm]
      rw [hv] at hC
      have hz := hC h chJ_refl (fun q => by omega)
      (repeat' (first | with_reducible assumption | (refine hisn ?_) | (refine And.intro ?_ ?_) | (with_reducible intro _) | (simp [wp_eq, wpE, mk_X11_newPlace, mg, mc_X11_newPlace, lget, lset, popN, cats, rcv, entL, isArr, kC_s, kC_n, st1, st2, st3, st4, st5, st6, st7, st8, st9, st10, st11, st12, st13, st14, st15, st16, st17, st18, st19, st20, st21, st22, st23, st24, st25, st26, st27, st28, st29, st30, st31, st32, st33, st34, st35, st36, st37, st38, st39, st40, st41, st42, st43, st44, st45, st46, st47, st48, st49, st50, st51, st52, st53, st54, st55, st56, st57, st58, st59, st60, st61, st62, st63, st64, st65, st66, st67, st68, st69, st70, st71, st72, st73, st74, st75, st76, st77, st78, st79, st80, st81, st82, st83, st84, st85, st86, st87, st88, st89, st90, st91, R0, R_kinds, R_bitsOf, R_many, R_line, R_begins, R_ends, hd0, hnm, b01]))) <;> (try (first | omega | exact hz))
    | true =>
      have hv : npl T here L k fn = npR T L k fn (npD T here L k) := by unfold npl; rw [if_neg (fun q => q hk), if_neg (by rw [hnm]; simp)]
      have q1 : chJ (sR r [17, 18, 125, 126, 151, 152]) h (hsetI (hsetI h r 51 (lS L k : Int)) r 52 (lE L k : Int)) := chJ_trans (chJ_set (by simp [sR])) (chJ_set (by simp [sR]))
      have H1 := RS_ch q1 (by simp) H
      by_cases hs : lS L k = wS L k
      · have hdd : npD T here L k = (here : Int) := by unfold npD; rw [if_pos hs]
        rw [hdd] at hv
        rw [hv] at hC
        have hz := fun x1 => rnp_rest (G := G) (d := d) (C := C) (X := fun _ _ => False) (k := k) (fn := fn) (x1 := x1) (by omega) H1 hw (Or.inr ⟨here, hw.2.1.1, rfl⟩) (hC _ q1 (fun _ => by simp [hty_I, hvi_I, hvr_I, hvl_I, hsz_I, hty_R, hvi_R, hvr_R, hvl_R, hsz_R, hty_L, hvi_L, hvr_L, hvl_L, hsz_L, hty_P, hvi_P, hvr_P, hvl_P, hsz_P, hty_C, hvi_C, hvr_C, hvl_C, hsz_C]))
        have hsi : ((wS L k : Int) < (lS L k : Int)) = False := eq_false (by omega)
        (repeat' (first | with_reducible assumption | (refine hisn ?_) | (refine And.intro ?_ ?_) | (with_reducible intro _) | (simp [wp_ne 144, wpE, mk_X11_newPlace, mg, mc_X11_newPlace, lget, lset, popN, cats, rcv, entL, isArr, kC_s, kC_n, st1, st2, st3, st4, st5, st6, st7, st8, st9, st10, st11, st12, st13, st14, st15, st16, st17, st18, st19, st20, st21, st22, st23, st24, st25, st26, st27, st28, st29, st30, st31, st32, st33, st34, st35, st36, st37, st38, st39, st40, st41, st42, st43, st44, st45, st46, st47, st48, st49, st50, st51, st52, st53, st54, st55, st56, st57, st58, st59, st60, st61, st62, st63, st64, st65, st66, st67, st68, st69, st70, st71, st72, st73, st74, st75, st76, st77, st78, st79, st80, st81, st82, st83, st84, st85, st86, st87, st88, st89, st90, st91, R0, R_kinds, R_bitsOf, R_many, R_line, R_begins, R_ends, hd0, hnm, b01, h13, hwS, hsi, hty_I, hvi_I, hvr_I, hvl_I, hsz_I, hty_R, hvi_R, hvr_R, hvl_R, hsz_R, hty_L, hvi_L, hvr_L, hvl_L, hsz_L, hty_P, hvi_P, hvr_P, hvl_P, hsz_P, hty_C, hvi_C, hvr_C, hvl_C, hsz_C]))) <;> (try (first | omega | exact hz))
        all_goals exact hz _
      · have hdd : npD T here L k = (wkR T true here (npW L k)).1 := by unfold npD; rw [if_neg hs]
        rw [hdd] at hv
        rw [hv] at hC
        have hsi : ((wS L k : Int) < (lS L k : Int)) = True := eq_true (by omega)
        have hlS : (lS L k : Int) = ((wS L k + (npW L k).length : Nat) : Int) := by omega
        (repeat' (first | with_reducible assumption | (refine hisn ?_) | (refine And.intro ?_ ?_) | (with_reducible intro _) | (simp [wp_ne 144, wpE, mk_X11_newPlace, mg, mc_X11_newPlace, lget, lset, popN, cats, rcv, entL, isArr, kC_s, kC_n, st1, st2, st3, st4, st5, st6, st7, st8, st9, st10, st11, st12, st13, st14, st15, st16, st17, st18, st19, st20, st21, st22, st23, st24, st25, st26, st27, st28, st29, st30, st31, st32, st33, st34, st35, st36, st37, st38, st39, st40, st41, st42, st43, st44, st45, st46, st47, st48, st49, st50, st51, st52, st53, st54, st55, st56, st57, st58, st59, st60, st61, st62, st63, st64, st65, st66, st67, st68, st69, st70, st71, st72, st73, st74, st75, st76, st77, st78, st79, st80, st81, st82, st83, st84, st85, st86, st87, st88, st89, st90, st91, R0, R_kinds, R_bitsOf, R_many, R_line, R_begins, R_ends, hd0, hnm, b01, h13, hwS, hsi, hty_I, hvi_I, hvr_I, hvl_I, hsz_I, hty_R, hvi_R, hvr_R, hvl_R, hsz_R, hty_L, hvi_L, hvr_L, hvl_L, hsz_L, hty_P, hvi_P, hvr_P, hvl_P, hsz_P, hty_C, hvi_C, hvr_C, hvl_C, hsz_C]))) <;> (try (first | omega | exact hz))
        refine r_layWayZ hlS H1.1 (npW_b bL k) (by omega) (fun i hi => by simp [hty_I, hvi_I, hvr_I, hvl_I, hsz_I, hty_R, hvi_R, hvr_R, hvl_R, hsz_R, hty_L, hvi_L, hvr_L, hvl_L, hsz_L, hty_P, hvi_P, hvr_P, hvl_P, hsz_P, hty_C, hvi_C, hvr_C, hvl_C, hsz_C]; rw [npW_get (by omega)]; exact HP.2 _ (by omega) (by omega)) (fun h2 z1 z2 z3 => ?_)
        have H2 := RS_ch z1 (by simp) H1
        have R02 := H2.1.1
        simp [wp_ne 144, wpE, mk_X11_newPlace, mg, mc_X11_newPlace, lget, lset, popN, cats, rcv, entL, isArr, kC_s, kC_n, st1, st2, st3, st4, st5, st6, st7, st8, st9, st10, st11, st12, st13, st14, st15, st16, st17, st18, st19, st20, st21, st22, st23, st24, st25, st26, st27, st28, st29, st30, st31, st32, st33, st34, st35, st36, st37, st38, st39, st40, st41, st42, st43, st44, st45, st46, st47, st48, st49, st50, st51, st52, st53, st54, st55, st56, st57, st58, st59, st60, st61, st62, st63, st64, st65, st66, st67, st68, st69, st70, st71, st72, st73, st74, st75, st76, st77, st78, st79, st80, st81, st82, st83, st84, st85, st86, st87, st88, st89, st90, st91, R02, hd0]
        refine r_walk (fol := true) (by omega) (wf_W hw) (wf_unq hw) H2.1 H2.2.2.2.1 hw.2.1.1 z3 z2 (fun q => by rw [q] at hpl; simp at hpl; omega) (npW_b bL k) (by omega) (fun h3 y1 _ => ?_)
        have H3 := RS_ch y1 (by simp) H2
        have hq3 : chJ (sR r [17, 18, 125, 126, 151, 152]) h h3 := chJ_trans q1 (chJ_trans (chJ_sub z1 (by simp)) (chJ_sub y1 (by simp)))
        have hz := fun x1 => rnp_rest (G := G) (d := d) (C := C) (X := fun _ _ => False) (k := k) (fn := fn) (x1 := x1) (by omega) H3 hw (wk_res (wf_W hw) (fun n v hT => wf_lt hw hT) _ _ _ _ _ (by split; omega; exact hw.2.1.1)) (hC h3 hq3 (fun _ => by rw [chJ_fld y1 (by simp) (by simp), chJ_fld z1 (by simp) (by simp), chJ_fld y1 (by simp) (by simp), chJ_fld z1 (by simp) (by simp)]; simp [hty_I, hvi_I, hvr_I, hvl_I, hsz_I, hty_R, hvi_R, hvr_R, hvl_R, hsz_R, hty_L, hvi_L, hvr_L, hvl_L, hsz_L, hty_P, hvi_P, hvr_P, hvl_P, hsz_P, hty_C, hvi_C, hvr_C, hvl_C, hsz_C]))
        (repeat' (first | with_reducible assumption | (refine And.intro ?_ ?_) | (with_reducible intro _) | (simp [wp_ne 144, wpE, mk_X11_newPlace, mg, mc_X11_newPlace, lget, lset, popN, cats, rcv, entL, isArr, kC_s, kC_n, st1, st2, st3, st4, st5, st6, st7, st8, st9, st10, st11, st12, st13, st14, st15, st16, st17, st18, st19, st20, st21, st22, st23, st24, st25, st26, st27, st28, st29, st30, st31, st32, st33, st34, st35, st36, st37, st38, st39, st40, st41, st42, st43, st44, st45, st46, st47, st48, st49, st50, st51, st52, st53, st54, st55, st56, st57, st58, st59, st60, st61, st62, st63, st64, st65, st66, st67, st68, st69, st70, st71, st72, st73, st74, st75, st76, st77, st78, st79, st80, st81, st82, st83, st84, st85, st86, st87, st88, st89, st90, st91]))) <;> (try (first | omega | exact hz))
        all_goals exact hz _
  · have hv : npl T here L k fn = -2 := by unfold npl; rw [if_pos hk]
    rw [hv] at hC
    have hz := hC h chJ_refl (fun q => by omega)
    (repeat' (first | with_reducible assumption | (refine And.intro ?_ ?_) | (with_reducible intro _) | (simp [wp_eq, wpE, mk_X11_newPlace, mg, mc_X11_newPlace, lget, lset, popN, cats, rcv, entL, isArr, kC_s, kC_n, st1, st2, st3, st4, st5, st6, st7, st8, st9, st10, st11, st12, st13, st14, st15, st16, st17, st18, st19, st20, st21, st22, st23, st24, st25, st26, st27, st28, st29, st30, st31, st32, st33, st34, st35, st36, st37, st38, st39, st40, st41, st42, st43, st44, st45, st46, st47, st48, st49, st50, st51, st52, st53, st54, st55, st56, st57, st58, st59, st60, st61, st62, st63, st64, st65, st66, st67, st68, st69, st70, st71, st72, st73, st74, st75, st76, st77, st78, st79, st80, st81, st82, st83, st84, st85, st86, st87, st88, st89, st90, st91, R0, R_kinds, R_bitsOf, R_many, R_line, R_begins, R_ends, h16, hk]))) <;> (try (first | omega | exact hz))
