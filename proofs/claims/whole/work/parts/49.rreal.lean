/-! real of the reference -/
theorem r_write {G : Nat → Nat} {d r : Nat} {h : mH} {C : mQ} {X : mX} {O : List Int} {z : Int} (HR : RN r h) (H : RO r h O) (hl : O.length < 1500) (hz0 : 0 ≤ z ∧ z < 256) (hC : ∀ h', chJ (sR r [16, 120]) h h' → RO r h' (O ++ [z]) → C none h') : callG (wp G) d 122 0 0 2 [.inr (.inl (some r)), .inl z] h C X := by
  have R0 := HR.1; have R_out := rn_out HR
  obtain ⟨o1, o2, o3, o4⟩ := H
  have hz := hC (hsetI (hsetI h (r + 16) O.length z) r 20 ((O.length : Int) + 1)) (chJ_trans (chJ_set (by simp [sR])) (chJ_set (by simp [sR]))) ⟨by simp [hty_I, hvi_I, hvr_I, hvl_I, hsz_I, hty_R, hvi_R, hvr_R, hvl_R, hsz_R, hty_L, hvi_L, hvr_L, hvl_L, hsz_L, hty_P, hvi_P, hvr_P, hvl_P, hsz_P, hty_C, hvi_C, hvr_C, hvl_C, hsz_C], by simp; omega, fun i hi => by
    simp at hi
    by_cases he : i = O.length
    · rw [he, lf_app_r (Nat.le_refl _)]; simp [hty_I, hvi_I, hvr_I, hvl_I, hsz_I, hty_R, hvi_R, hvr_R, hvl_R, hsz_R, hty_L, hvi_L, hvr_L, hvl_L, hsz_L, hty_P, hvi_P, hvr_P, hvl_P, hsz_P, hty_C, hvi_C, hvr_C, hvl_C, hsz_C, lf]
    · rw [lf_app_l (by omega)]; simp [hty_I, hvi_I, hvr_I, hvl_I, hsz_I, hty_R, hvi_R, hvr_R, hvl_R, hsz_R, hty_L, hvi_L, hvr_L, hvl_L, hsz_L, hty_P, hvi_P, hvr_P, hvl_P, hsz_P, hty_C, hvi_C, hvr_C, hvl_C, hsz_C, he]; have := o3 i (by omega); simpa using this, bd_app o4 (fun c hc => by simp at hc; omega)⟩
  refine ⟨C, fun _ _ => False, ?_, fun _ _ q => q, fun _ _ q => q.elim⟩
  (repeat' (first | with_reducible assumption | (refine And.intro ?_ ?_) | (with_reducible intro _) | (simp [wp_eq, wpE, mk_X11_write, mg, mc_X11_write, lget, lset, popN, cats, rcv, entL, isArr, kC_s, kC_n, st1, st2, st3, st4, st5, st6, st7, st8, st9, st10, st11, st12, st13, st14, st15, st16, st17, st18, st19, st20, st21, st22, st23, st24, st25, st26, st27, st28, st29, st30, st31, st32, st33, st34, st35, st36, st37, st38, st39, st40, st41, st42, st43, st44, st45, st46, st47, st48, st49, st50, st51, st52, st53, st54, st55, st56, st57, st58, st59, st60, st61, st62, st63, st64, st65, st66, st67, st68, st69, st70, st71, st72, st73, st74, st75, st76, st77, st78, st79, st80, st81, st82, st83, st84, st85, st86, st87, st88, st89, st90, st91, R0, R_out, o1, inR, hty_I, hvi_I, hvr_I, hvl_I, hsz_I, hty_R, hvi_R, hvr_R, hvl_R, hsz_R, hty_L, hvi_L, hvr_L, hvl_L, hsz_L, hty_P, hvi_P, hvr_P, hvl_P, hsz_P, hty_C, hvi_C, hvr_C, hvl_C, hsz_C]))) <;> (try (first | omega | exact hz))
def nmE (r : Nat) (h : mH) (e : Nat) (s : List Int) : Prop := e < 576 ∧ hvi h (r + 11) e = (s.length : Int) ∧ ro h (r + 12) (14 * e) s ∧ bd s ∧ s.length ≤ 14
theorem nmE_ch {r e : Nat} {h h' : mH} {s : List Int} {l : List Nat} (q : chJ (sR r l) h h') (hl : ¬ 11 ∈ l ∧ ¬ 12 ∈ l) (H : nmE r h e s) : nmE r h' e s :=
  ⟨H.1, by rw [chJ_row q (by omega) hl.1]; exact H.2.1, fun i hi => by rw [chJ_row q (by omega) hl.2]; exact H.2.2.1 i hi, H.2.2.2⟩
theorem ent_loop {G : Nat → Nat} {d r n p k0 : Nat} {h : mH} {C : mQ} {X : mX} {E : List aE} (HR : RN r h) (hn : n < 48) (hp : p < 48) (hpn : hvi h (r + 6) n = (p : Int)) (HE : RE r h p E) (hk : k0 < E.length) (hu : ∀ j q, E[j]? = some q → (q.2 = n ↔ j = k0)) (hC : C (some (.inl ((12 * p + k0 : Nat) : Int))) h) :
    ∀ (m i : Nat), m + i = E.length → wp G d 120 100004 [some (.inr (.inl (some r))), some (.inl (n : Int)), some (.inl (if k0 < i then ((12 * p + k0 : Nat) : Int) else -1)), some (.inl (i : Int))] [] h 0 0 C X := by
  have R0 := HR.1; have R_parents := rn_parents HR; have R_many := rn_many HR; have R_targets := rn_targets HR
  obtain ⟨g1, g2, g3⟩ := HE
  intro m
  induction m with
  | zero =>
    intro i hi
    have hi' : i = E.length := by omega
    rw [if_pos (by omega), wp_hd]
    (repeat' (first | with_reducible assumption | (refine And.intro ?_ ?_) | (with_reducible intro _) | (simp [wp_eq, wpE, mk_X11_entryOf, mg, mc_X11_entryOf, lget, lset, popN, cats, rcv, entL, isArr, kC_s, kC_n, st1, st2, st3, st4, st5, st6, st7, st8, st9, st10, st11, st12, st13, st14, st15, st16, st17, st18, st19, st20, st21, st22, st23, st24, st25, st26, st27, st28, st29, st30, st31, st32, st33, st34, st35, st36, st37, st38, st39, st40, st41, st42, st43, st44, st45, st46, st47, st48, st49, st50, st51, st52, st53, st54, st55, st56, st57, st58, st59, st60, st61, st62, st63, st64, st65, st66, st67, st68, st69, st70, st71, st72, st73, st74, st75, st76, st77, st78, st79, st80, st81, st82, st83, st84, st85, st86, st87, st88, st89, st90, st91, R0, R_parents, R_many, R_targets, -Int.natCast_add, -Int.natCast_mul, hpn, g1, hi']))) <;> (try (first | omega | exact hz))
  | succ m ih =>
    intro i hi
    have hq : E[i]? = some (E[i]'(by omega)) := List.getElem?_eq_getElem (by omega)
    obtain ⟨f1, -⟩ := g3 i _ hq
    have hui := hu i _ hq
    have hz := ih (i + 1) (by omega)
    have hil : i < E.length := by omega
    have e1 : (12 : Int) * (p : Int) + (i : Int) = ((12 * p + i : Nat) : Int) := by omega
    have e2 : ((12 * p + i : Nat) : Int).toNat = 12 * p + i := by omega
    rw [wp_hd]
    by_cases hik : i = k0
    · have ht : (E[i]'(by omega)).2 = n := hui.mpr hik
      rw [ht] at f1
      rw [if_pos (by omega), ← hik] at hz
      rw [if_neg (by omega)]
      (repeat' (first | with_reducible assumption | (refine And.intro ?_ ?_) | (with_reducible intro _) | (simp [wp_eq, wpE, mk_X11_entryOf, mg, mc_X11_entryOf, lget, lset, popN, cats, rcv, entL, isArr, kC_s, kC_n, st1, st2, st3, st4, st5, st6, st7, st8, st9, st10, st11, st12, st13, st14, st15, st16, st17, st18, st19, st20, st21, st22, st23, st24, st25, st26, st27, st28, st29, st30, st31, st32, st33, st34, st35, st36, st37, st38, st39, st40, st41, st42, st43, st44, st45, st46, st47, st48, st49, st50, st51, st52, st53, st54, st55, st56, st57, st58, st59, st60, st61, st62, st63, st64, st65, st66, st67, st68, st69, st70, st71, st72, st73, st74, st75, st76, st77, st78, st79, st80, st81, st82, st83, st84, st85, st86, st87, st88, st89, st90, st91, R0, R_parents, R_many, R_targets, -Int.natCast_add, -Int.natCast_mul, hpn, g1, hil, e1, e2, f1, inR]))) <;> (try (first | omega | exact hz))
    · have ht : ¬ (((E[i]'(by omega)).2 : Nat) : Int) = (n : Int) := fun q => hik (hui.mp (by omega))
      have hsame : (if k0 < i + 1 then ((12 * p + k0 : Nat) : Int) else -1) = (if k0 < i then ((12 * p + k0 : Nat) : Int) else -1) := by
        by_cases hlt : k0 < i
        · rw [if_pos hlt, if_pos (by omega)]
        · rw [if_neg hlt, if_neg (by omega)]
      rw [hsame] at hz
      generalize (if k0 < i then ((12 * p + k0 : Nat) : Int) else -1) = fnd at *
      (repeat' (first | with_reducible assumption | (refine And.intro ?_ ?_) | (with_reducible intro _) | (simp [wp_eq, wpE, mk_X11_entryOf, mg, mc_X11_entryOf, lget, lset, popN, cats, rcv, entL, isArr, kC_s, kC_n, st1, st2, st3, st4, st5, st6, st7, st8, st9, st10, st11, st12, st13, st14, st15, st16, st17, st18, st19, st20, st21, st22, st23, st24, st25, st26, st27, st28, st29, st30, st31, st32, st33, st34, st35, st36, st37, st38, st39, st40, st41, st42, st43, st44, st45, st46, st47, st48, st49, st50, st51, st52, st53, st54, st55, st56, st57, st58, st59, st60, st61, st62, st63, st64, st65, st66, st67, st68, st69, st70, st71, st72, st73, st74, st75, st76, st77, st78, st79, st80, st81, st82, st83, st84, st85, st86, st87, st88, st89, st90, st91, R0, R_parents, R_many, R_targets, -Int.natCast_add, -Int.natCast_mul, hpn, g1, hil, e1, e2, f1, ht, inR]))) <;> (try (first | omega | exact hz))
theorem r_entryOf {G : Nat → Nat} {d r n : Nat} {h : mH} {C : mQ} {X : mX} {Es : Nat → List aE} {L : List Int} {T : aT} {here : Nat} {O : List Int} {cp bad : Int} (H : RS r h Es L T here O cp bad) (hw : wf T here) (hk : tK T n = 0) (h0 : ¬ n = 0) (hC : ∀ e : Nat, nmE r h e (nmO T n) → C (some (.inl (e : Int))) h) :
    callG (wp G) d 120 0 0 4 [.inr (.inl (some r)), .inl (n : Int)] h C X := by
  obtain ⟨v, hT, hkv⟩ := tK_ge hk
  have hn := wf_lt hw hT
  obtain ⟨s, u, hm, hu, hku, hs⟩ := wf_up hw hT hkv h0
  have hp := wf_lt hw hu
  have hone := fun d s => one_tie (d := d) (s := s) hw hT hkv h0
  obtain ⟨-, o2⟩ := hone (nA v) s (by rw [tE_some hu]; exact hm)
  obtain ⟨-, b2, -, -⟩ := (H.2.2.2.1.2.2 n v hn hT).2.2.2.1 hkv
  obtain ⟨-, -, c3, c4⟩ := (H.2.2.2.1.2.2 (nA v) u hp hu).2.2.2.1 hku
  have hmE : (s, n) ∈ Es (nA v) := c4.mem_iff.mpr hm
  obtain ⟨k0, hk0⟩ := List.mem_iff_getElem?.mp hmE
  have hkl := (List.getElem?_eq_some_iff.mp hk0).1
  have hun : unq (Es (nA v)) := unq_perm c4.symm (wf_unq hw _ u hp hu)
  obtain ⟨y1, y2, y3, y4, y5, y6⟩ := c3.2.2 k0 _ hk0
  have hz := ent_loop (G := G) (d := d - 1) (C := C) (X := fun _ _ => False) H.1 hn hp b2 c3 hkl (fun j q hq => ⟨fun hqn => ?_, fun hj => ?_⟩) (hC _ (by rw [← o2]; exact ⟨by have := c3.2.1; omega, y2, y3, y4, y5⟩)) (Es (nA v)).length 0 (by omega)
  · refine ⟨C, fun _ _ => False, ?_, fun _ _ q => q, fun _ _ q => q.elim⟩
    simp at hz
    (repeat' (first | with_reducible assumption | (refine And.intro ?_ ?_) | (with_reducible intro _) | (simp [wp_eq, wpE, mk_X11_entryOf, mg, mc_X11_entryOf, lget, lset, popN, cats, rcv, entL, isArr, kC_s, kC_n, st1, st2, st3, st4, st5, st6, st7, st8, st9, st10, st11, st12, st13, st14, st15, st16, st17, st18, st19, st20, st21, st22, st23, st24, st25, st26, st27, st28, st29, st30, st31, st32, st33, st34, st35, st36, st37, st38, st39, st40, st41, st42, st43, st44, st45, st46, st47, st48, st49, st50, st51, st52, st53, st54, st55, st56, st57, st58, st59, st60, st61, st62, st63, st64, st65, st66, st67, st68, st69, st70, st71, st72, st73, st74, st75, st76, st77, st78, st79, st80, st81, st82, st83, st84, st85, st86, st87, st88, st89, st90, st91]))) <;> (try (first | omega | exact hz))
  · have hq2 : q = (q.1, n) := by rw [← hqn]
    have hqm : q ∈ Es (nA v) := List.mem_of_getElem? hq
    rw [hq2] at hqm
    have hs2 := (hone (nA v) q.1 (by rw [tE_some hu]; exact c4.mem_iff.mp hqm)).2
    have hqs : q = (s, n) := by rw [hq2, hs2, o2]
    obtain ⟨j1, j2⟩ := List.getElem?_eq_some_iff.mp hq
    obtain ⟨k1, k2⟩ := List.getElem?_eq_some_iff.mp hk0
    rcases Nat.lt_trichotomy j k0 with z | z | z
    · exact absurd (by rw [j2, k2, hqs]) (List.pairwise_iff_getElem.mp hun j k0 j1 k1 z)
    · exact z
    · exact absurd (by rw [j2, k2, hqs]) (List.pairwise_iff_getElem.mp hun k0 j k1 j1 z)
  · rw [hj, hk0] at hq; cases hq; rfl
/-- names from the last to the first -/
def pst : List (List Int) → List Int
  | [] => []
  | s :: Q => pst Q ++ 47 :: s
def upl (T : aT) : Nat → Nat → List (List Int)
  | 0, _ => []
  | f + 1, n => if n = 0 then [] else nmO T n :: upl T f (tA T n)
theorem pst_app (Q R : List (List Int)) : pst (Q ++ R) = pst R ++ pst Q := by
  induction Q with
  | nil => simp [pst]
  | cons s Q ih => simp [pst, ih]
theorem pst_upl (T : aT) : ∀ f n, pst (upl T f n) = ups T f n := by
  intro f
  induction f with
  | zero => intro n; rfl
  | succ f ih =>
    intro n
    simp only [upl, ups]
    by_cases h0 : n = 0
    · rw [if_pos h0, if_pos h0]; rfl
    · rw [if_neg h0, if_neg h0]; simp [pst, ih]
theorem pst_len : ∀ (Q : List (List Int)), (∀ s ∈ Q, s.length ≤ 14) → (pst Q).length ≤ 15 * Q.length := by
  intro Q
  induction Q with
  | nil => intro _; simp [pst]
  | cons s Q ih =>
    intro h
    have h1 := h s List.mem_cons_self
    have h2 := ih (fun x hx => h x (List.mem_cons_of_mem _ hx))
    simp [pst]; omega
theorem upl_len (T : aT) : ∀ f n, (upl T f n).length ≤ f := by
  intro f
  induction f with
  | zero => intro n; simp [upl]
  | succ f ih =>
    intro n
    simp only [upl]
    split
    · simp
    · have := ih (tA T n); simp; omega
def PL (r : Nat) (h : mH) (Q : List (List Int)) : Prop := ∀ i s, Q[i]? = some s → ∃ e : Nat, hvi h (r + 23) i = (e : Int) ∧ nmE r h e s
theorem PL_push {r e : Nat} {h : mH} {Q : List (List Int)} {s : List Int} (H : PL r h Q) (he : nmE r h e s) : PL r (hsetI h (r + 23) Q.length (e : Int)) (Q ++ [s]) := by
  have q : chJ (sR r [23]) h (hsetI h (r + 23) Q.length (e : Int)) := chJ_set (by simp [sR])
  intro i s' hi
  by_cases hl : i < Q.length
  · rw [List.getElem?_append_left hl] at hi
    obtain ⟨e', y1, y2⟩ := H i s' hi
    exact ⟨e', by simp [hty_I, hvi_I, hvr_I, hvl_I, hsz_I, hty_R, hvi_R, hvr_R, hvl_R, hsz_R, hty_L, hvi_L, hvr_L, hvl_L, hsz_L, hty_P, hvi_P, hvr_P, hvl_P, hsz_P, hty_C, hvi_C, hvr_C, hvl_C, hsz_C, show ¬ i = Q.length by omega, y1], nmE_ch q (by simp) y2⟩
  · rw [List.getElem?_append_right (by omega)] at hi
    have hk0 : i - Q.length = 0 := by
      cases hn : i - Q.length with
      | zero => rfl
      | succ n => rw [hn] at hi; simp at hi
    rw [hk0] at hi
    simp at hi
    subst hi
    exact ⟨e, by simp [hty_I, hvi_I, hvr_I, hvl_I, hsz_I, hty_R, hvi_R, hvr_R, hvl_R, hsz_R, hty_L, hvi_L, hvr_L, hvl_L, hsz_L, hty_P, hvi_P, hvr_P, hvl_P, hsz_P, hty_C, hvi_C, hvr_C, hvl_C, hsz_C, show i = Q.length by omega], nmE_ch q (by simp) he⟩
theorem rr_loop1 {G : Nat → Nat} {d r : Nat} {C : mQ} {X : mX} {Es : Nat → List aE} {L : List Int} {T : aT} {here : Nat} {O : List Int} {cp bad : Int} {x1 x4 x5 : Option mV} (hd : 1 ≤ d) (hw : wf T here) : ∀ (f n : Nat) (Q : List (List Int)) (h : mH), rch T f n → tK T n = 0 → RS r h Es L T here O cp bad → PL r h Q → Q.length + f ≤ 100 →
    (∀ h', chJ (sR r [23]) h h' → RS r h' Es L T here O cp bad → PL r h' (Q ++ upl T f n) → wp G d 121 84 [some (.inr (.inl (some r))), x1, some (.inl ((Q ++ upl T f n).length : Int)), some (.inl 0), x4, x5] [] h' 0 0 C X) →
    wp G d 121 100056 [some (.inr (.inl (some r))), x1, some (.inl (Q.length : Int)), some (.inl (n : Int)), x4, x5] [] h 0 0 C X := by
  have hd0 : (0 < d) = True := eq_true (by omega)
  intro f
  induction f with
  | zero =>
    intro n Q h hr hk H hQ hl hC
    have hn0 : n = 0 := hr
    subst hn0
    have hz := hC h chJ_refl H (by simpa [upl] using hQ)
    simp [upl] at hz
    have HR := H.1
    have R0 := HR.1; have R_kinds := rn_kinds HR; have R_parents := rn_parents HR; have R_nameSizes := rn_nameSizes HR; have R_names := rn_names HR; have R_pile := rn_pile HR
    rw [wp_hd]
    (repeat' (first | with_reducible assumption | (refine And.intro ?_ ?_) | (with_reducible intro _) | (simp [wp_ne 84, wpE, mk_X11_real, mg, mc_X11_real, lget, lset, popN, cats, rcv, entL, isArr, kC_s, kC_n, st1, st2, st3, st4, st5, st6, st7, st8, st9, st10, st11, st12, st13, st14, st15, st16, st17, st18, st19, st20, st21, st22, st23, st24, st25, st26, st27, st28, st29, st30, st31, st32, st33, st34, st35, st36, st37, st38, st39, st40, st41, st42, st43, st44, st45, st46, st47, st48, st49, st50, st51, st52, st53, st54, st55, st56, st57, st58, st59, st60, st61, st62, st63, st64, st65, st66, st67, st68, st69, st70, st71, st72, st73, st74, st75, st76, st77, st78, st79, st80, st81, st82, st83, st84, st85, st86, st87, st88, st89, st90, st91, R0, R_kinds, R_parents, R_nameSizes, R_names, R_pile]))) <;> (try (first | omega | exact hz))
  | succ f ih =>
    intro n Q h hr hk H hQ hl hC
    have HR := H.1
    have R0 := HR.1; have R_kinds := rn_kinds HR; have R_parents := rn_parents HR; have R_nameSizes := rn_nameSizes HR; have R_names := rn_names HR; have R_pile := rn_pile HR
    simp only [upl] at hC
    rw [wp_hd]
    by_cases h0 : n = 0
    · subst h0
      rw [if_pos rfl] at hC
      have hz := hC h chJ_refl H (by simpa using hQ)
      simp at hz
      (repeat' (first | with_reducible assumption | (refine And.intro ?_ ?_) | (with_reducible intro _) | (simp [wp_ne 84, wpE, mk_X11_real, mg, mc_X11_real, lget, lset, popN, cats, rcv, entL, isArr, kC_s, kC_n, st1, st2, st3, st4, st5, st6, st7, st8, st9, st10, st11, st12, st13, st14, st15, st16, st17, st18, st19, st20, st21, st22, st23, st24, st25, st26, st27, st28, st29, st30, st31, st32, st33, st34, st35, st36, st37, st38, st39, st40, st41, st42, st43, st44, st45, st46, st47, st48, st49, st50, st51, st52, st53, st54, st55, st56, st57, st58, st59, st60, st61, st62, st63, st64, st65, st66, st67, st68, st69, st70, st71, st72, st73, st74, st75, st76, st77, st78, st79, st80, st81, st82, st83, st84, st85, st86, st87, st88, st89, st90, st91, R0, R_kinds, R_parents, R_nameSizes, R_names, R_pile]))) <;> (try (first | omega | exact hz))
    · rw [if_neg h0] at hC
      obtain ⟨v, hT, hkv⟩ := tK_ge hk
      have hn := wf_lt hw hT
      obtain ⟨-, b2, -, -⟩ := (H.2.2.2.1.2.2 n v hn hT).2.2.2.1 hkv
      have hnz : ¬ (n : Int) = 0 := by omega
      have hk2 := (nmO_ok hw hk h0).2
      have hr' := hr.resolve_left h0
      rw [tA_some hT] at hC hr' hk2
      have hl2 : Q.length < 130 := by omega
      simp [wp_ne 84, wpE, mk_X11_real, mg, mc_X11_real, lget, lset, popN, cats, rcv, entL, isArr, kC_s, kC_n, st1, st2, st3, st4, st5, st6, st7, st8, st9, st10, st11, st12, st13, st14, st15, st16, st17, st18, st19, st20, st21, st22, st23, st24, st25, st26, st27, st28, st29, st30, st31, st32, st33, st34, st35, st36, st37, st38, st39, st40, st41, st42, st43, st44, st45, st46, st47, st48, st49, st50, st51, st52, st53, st54, st55, st56, st57, st58, st59, st60, st61, st62, st63, st64, st65, st66, st67, st68, st69, st70, st71, st72, st73, st74, st75, st76, st77, st78, st79, st80, st81, st82, st83, st84, st85, st86, st87, st88, st89, st90, st91, R0, R_pile, hnz, h0, hd0]
      refine r_entryOf H hw hk h0 (fun e he => ?_)
      have q1 : chJ (sR r [23]) h (hsetI h (r + 23) Q.length (e : Int)) := chJ_set (by simp [sR])
      have hz := ih (nA v) (Q ++ [nmO T n]) _ hr' hk2 (RS_ch q1 (by simp) H) (PL_push hQ he) (by simp; omega) (fun h' y1 y2 y3 => by
        have := hC h' (chJ_trans q1 y1) y2 (by simpa using y3)
        simpa using this)
      simp at hz
      (repeat' (first | with_reducible assumption | (refine And.intro ?_ ?_) | (with_reducible intro _) | (simp [wp_ne 84, wpE, mk_X11_real, mg, mc_X11_real, lget, lset, popN, cats, rcv, entL, isArr, kC_s, kC_n, st1, st2, st3, st4, st5, st6, st7, st8, st9, st10, st11, st12, st13, st14, st15, st16, st17, st18, st19, st20, st21, st22, st23, st24, st25, st26, st27, st28, st29, st30, st31, st32, st33, st34, st35, st36, st37, st38, st39, st40, st41, st42, st43, st44, st45, st46, st47, st48, st49, st50, st51, st52, st53, st54, st55, st56, st57, st58, st59, st60, st61, st62, st63, st64, st65, st66, st67, st68, st69, st70, st71, st72, st73, st74, st75, st76, st77, st78, st79, st80, st81, st82, st83, st84, st85, st86, st87, st88, st89, st90, st91, R0, R_kinds, R_parents, R_nameSizes, R_names, R_pile, b2, hty_I, hvi_I, hvr_I, hvl_I, hsz_I, hty_R, hvi_R, hvr_R, hvl_R, hsz_R, hty_L, hvi_L, hvr_L, hvl_L, hsz_L, hty_P, hvi_P, hvr_P, hvl_P, hsz_P, hty_C, hvi_C, hvr_C, hvl_C, hsz_C, inR]))) <;> (try (first | omega | exact hz))
theorem rr_in {G : Nat → Nat} {d r k e : Nat} {C : mQ} {X : mX} {s : List Int} {x1 x2 x3 : Option mV} (hd : 1 ≤ d) (hk : k < 130) : ∀ (m i : Nat) (h : mH) (O : List Int), m + i = s.length → RN r h → RO r h (O ++ s.take i) → O.length + s.length < 1500 → hvi h (r + 23) k = (e : Int) → nmE r h e s →
    (∀ h' x5, chJ (sR r [16, 120]) h h' → RO r h' (O ++ s) → wp G d 121 153 [some (.inr (.inl (some r))), x1, x2, x3, some (.inl (k : Int)), x5] [] h' 0 0 C X) →
    wp G d 121 100108 [some (.inr (.inl (some r))), x1, x2, x3, some (.inl (k : Int)), some (.inl (i : Int))] [] h 0 0 C X := by
  have hd0 : (0 < d) = True := eq_true (by omega)
  intro m
  induction m with
  | zero =>
    intro i h O hm HR HO hl hp he hC
    have R0 := HR.1; have R_kinds := rn_kinds HR; have R_parents := rn_parents HR; have R_nameSizes := rn_nameSizes HR; have R_names := rn_names HR; have R_pile := rn_pile HR
    have hi : i = s.length := by omega
    rw [hi, List.take_length] at HO
    have hz := hC h (some (.inl (i : Int))) chJ_refl HO
    have e2 := he.2.1
    have e0 := he.1
    rw [hi] at hz
    rw [wp_hd]
    (repeat' (first | with_reducible assumption | (refine And.intro ?_ ?_) | (with_reducible intro _) | (simp [wp_ne 153, wpE, mk_X11_real, mg, mc_X11_real, lget, lset, popN, cats, rcv, entL, isArr, kC_s, kC_n, st1, st2, st3, st4, st5, st6, st7, st8, st9, st10, st11, st12, st13, st14, st15, st16, st17, st18, st19, st20, st21, st22, st23, st24, st25, st26, st27, st28, st29, st30, st31, st32, st33, st34, st35, st36, st37, st38, st39, st40, st41, st42, st43, st44, st45, st46, st47, st48, st49, st50, st51, st52, st53, st54, st55, st56, st57, st58, st59, st60, st61, st62, st63, st64, st65, st66, st67, st68, st69, st70, st71, st72, st73, st74, st75, st76, st77, st78, st79, st80, st81, st82, st83, st84, st85, st86, st87, st88, st89, st90, st91, R0, R_kinds, R_parents, R_nameSizes, R_names, R_pile, hp, e2, hi]))) <;> (try (first | omega | exact hz))
  | succ m ih =>
    intro i h O hm HR HO hl hp he hC
    have R0 := HR.1; have R_kinds := rn_kinds HR; have R_parents := rn_parents HR; have R_nameSizes := rn_nameSizes HR; have R_names := rn_names HR; have R_pile := rn_pile HR
    have hi : i < s.length := by omega
    obtain ⟨e0, e2, e3, e4, e5⟩ := he
    have he : nmE r h e s := ⟨e0, e2, e3, e4, e5⟩
    have c := e3 i hi
    have bi := lf_b e4 i
    have e6 : ((14 : Int) * (e : Int) + (i : Int)).toNat = 14 * e + i := by omega
    have hts : s.take (i + 1) = s.take i ++ [lf s i] := by rw [List.take_succ, List.getElem?_eq_getElem hi]; simp [lf, hi]
    have hto : (O ++ s.take i).length < 1500 := by simp; omega
    rw [wp_hd]
    have hcw : ∀ {C : mQ} {X : mX}, (∀ h', chJ (sR r [16, 120]) h h' → RO r h' (O ++ s.take i ++ [lf s i]) → C none h') → callG (wp G) d 122 0 0 2 [.inr (.inl (some r)), .inl (lf s i)] h C X := fun {C X} q => r_write HR HO hto bi q
    (repeat' (first | with_reducible assumption | (refine hcw ?_) | (refine And.intro ?_ ?_) | (with_reducible intro _) | (simp [wp_ne 153, wpE, mk_X11_real, mg, mc_X11_real, lget, lset, popN, cats, rcv, entL, isArr, kC_s, kC_n, st1, st2, st3, st4, st5, st6, st7, st8, st9, st10, st11, st12, st13, st14, st15, st16, st17, st18, st19, st20, st21, st22, st23, st24, st25, st26, st27, st28, st29, st30, st31, st32, st33, st34, st35, st36, st37, st38, st39, st40, st41, st42, st43, st44, st45, st46, st47, st48, st49, st50, st51, st52, st53, st54, st55, st56, st57, st58, st59, st60, st61, st62, st63, st64, st65, st66, st67, st68, st69, st70, st71, st72, st73, st74, st75, st76, st77, st78, st79, st80, st81, st82, st83, st84, st85, st86, st87, st88, st89, st90, st91, R0, R_kinds, R_parents, R_nameSizes, R_names, R_pile, hp, e2, hi, e6, c, hd0, inR]))) <;> (try (first | omega | exact hz))
    all_goals
      rename_i zzh zz1 zz2
      have hz := ih (i + 1) zzh O (by omega) (RN_ch zz1 HR) (by rw [hts, ← List.append_assoc]; exact zz2) hl (by rw [chJ_row zz1 (by omega) (by simp)]; exact hp) (nmE_ch zz1 (by simp) he) (fun h' x5 y1 y2 => hC h' x5 (chJ_trans zz1 y1) y2)
      have R0z := (RN_ch zz1 HR).1
      (repeat' (first | with_reducible assumption | (refine And.intro ?_ ?_) | (with_reducible intro _) | (simp [wp_ne 153, wpE, mk_X11_real, mg, mc_X11_real, lget, lset, popN, cats, rcv, entL, isArr, kC_s, kC_n, st1, st2, st3, st4, st5, st6, st7, st8, st9, st10, st11, st12, st13, st14, st15, st16, st17, st18, st19, st20, st21, st22, st23, st24, st25, st26, st27, st28, st29, st30, st31, st32, st33, st34, st35, st36, st37, st38, st39, st40, st41, st42, st43, st44, st45, st46, st47, st48, st49, st50, st51, st52, st53, st54, st55, st56, st57, st58, st59, st60, st61, st62, st63, st64, st65, st66, st67, st68, st69, st70, st71, st72, st73, st74, st75, st76, st77, st78, st79, st80, st81, st82, st83, st84, st85, st86, st87, st88, st89, st90, st91, R0z, inR]))) <;> (try (first | omega | exact hz))
