/-! THE REFERENCE: the next name -/
def abv (l : Option (List Int)) (s : List Int) : Bool := match l with
  | none => true
  | some l => decide (0 < cmpv s l)
def blw (a : Option (Nat × List Int)) (s : List Int) : Bool := match a with
  | none => true
  | some m => decide (cmpv s m.2 < 0)
def nx2 (l : Option (List Int)) : List aE → Nat → Option (Nat × List Int) → Option (Nat × List Int)
  | [], _, a => a
  | p :: E, k, a => nx2 l E (k + 1) (if abv l p.1 = true ∧ blw a p.1 = true then some (k, p.1) else a)
def slV (n : Nat) (a : Option (Nat × List Int)) : Int := match a with
  | none => -1
  | some m => ((12 * n + m.1 : Nat) : Int)
theorem r_compareZ {G : Nat → Nat} {d r a e s N : Nat} {h : mH} {C : mQ} {X : mX} {u w : List Int} {ze zs zt : Int} (he0 : ze = (e : Int)) (hs0 : zs = (s : Int)) (ht0 : zt = ((s + w.length : Nat) : Int)) (HR : RN r h) (he : e < 576) (hn : hvi h (r + 11) e = (u.length : Int)) (hu : ro h (r + 12) (14 * e) u) (bu : bd u) (bw : bd w) (hul : u.length ≤ 14) (ht : hty h a = some (21, N)) (hN : s + w.length ≤ N) (hN2 : N ≤ 60000) (hr : ro h a s w) (hC : C (some (.inl (cmpv u w))) h) :
    callG (wp G) d 101 0 0 9 [.inr (.inl (some r)), .inl ze, .inr (.inl (some a)), .inl zs, .inl zt] h C X := by
  subst he0 hs0 ht0
  exact r_compare HR he hn hu bu bw hul ht hN hN2 hr hC
theorem rn_loop {G : Nat → Nat} {d r n : Nat} {h : mH} {C : mQ} {X : mX} {E : List aE} {l : Option (List Int)} {zl : Int} (hd : 1 ≤ d) (hn : n < 48) (HR : RN r h) (H : RE r h n E) (hl : (l = none ∧ zl = -1) ∨ ∃ j p, E[j]? = some p ∧ l = some p.1 ∧ zl = ((12 * n + j : Nat) : Int)) :
    ∀ (m k : Nat) (a : Option (Nat × List Int)) (x5 : Option mV), k + m = E.length → (∀ i s, a = some (i, s) → ∃ x, E[i]? = some (s, x)) → C (some (.inl (slV n (nx2 l (E.drop k) k a)))) h →
    wp G d 138 100008 [some (.inr (.inl (some r))), some (.inl (n : Int)), some (.inl zl), some (.inl (slV n a)), some (.inl ((12 * n + k : Nat) : Int)), x5] [] h 0 0 C X := by
  have hd0 : (0 < d) = True := eq_true (by omega)
  have R0 := HR.1; have R_many := rn_many HR; have R_nameSizes := rn_nameSizes HR; have R_names := rn_names HR
  obtain ⟨m1, m2, m3⟩ := H
  have em : 12 * (n : Int) + (E.length : Int) = ((12 * n + E.length : Nat) : Int) := by omega
  intro m
  induction m with
  | zero =>
    intro k a x5 hk ha hC
    rw [List.drop_of_length_le (by omega)] at hC
    simp only [nx2] at hC
    have hz := hC
    have hke : k = E.length := by omega
    subst hke
    rw [wp_hd]
    generalize slV n a = za at *
    (repeat' (first | with_reducible assumption | (refine And.intro ?_ ?_) | (with_reducible intro _) | (simp [wp_eq, wpE, mk_X11_nextName, mg, mc_X11_nextName, lget, lset, popN, cats, rcv, entL, isArr, kC_s, kC_n, st1, st2, st3, st4, st5, st6, st7, st8, st9, st10, st11, st12, st13, st14, st15, st16, st17, st18, st19, st20, st21, st22, st23, st24, st25, st26, st27, st28, st29, st30, st31, st32, st33, st34, st35, st36, st37, st38, st39, st40, st41, st42, st43, st44, st45, st46, st47, st48, st49, st50, st51, st52, st53, st54, st55, st56, st57, st58, st59, st60, st61, st62, st63, st64, st65, st66, st67, st68, st69, st70, st71, st72, st73, st74, st75, st76, st77, st78, st79, st80, st81, st82, st83, st84, st85, st86, st87, st88, st89, st90, st91, R0, R_many, R_nameSizes, R_names, -Int.natCast_add, m1, em, inR]))) <;> (try (first | omega | exact hz))
  | succ m ih =>
    intro k a x5 hk ha hC
    have hke : k < E.length := by omega
    obtain ⟨p, hp⟩ : ∃ p, E[k]? = some p := ⟨E[k], List.getElem?_eq_getElem hke⟩
    have hdr : E.drop k = p :: E.drop (k + 1) := by
      rw [List.drop_eq_getElem_cons hke]
      congr 1
      rw [List.getElem?_eq_getElem hke] at hp
      injection hp
    rw [hdr] at hC
    simp only [nx2] at hC
    obtain ⟨-, p2, p3, p4, p5, -⟩ := m3 k p hp
    have hkm : ¬ ((12 * n + E.length : Nat) : Int) ≤ ((12 * n + k : Nat) : Int) := by omega
    have nextA : ∀ (a' : Option (Nat × List Int)) (x5 : Option mV), (a' = if abv l p.1 = true ∧ blw a p.1 = true then some (k, p.1) else a) → wp G d 138 100008 [some (.inr (.inl (some r))), some (.inl (n : Int)), some (.inl zl), some (.inl (slV n a')), some (.inl ((12 * n + (k + 1) : Nat) : Int)), x5] [] h 0 0 C X := by
      intro a' x5 ha'
      refine ih (k + 1) a' x5 (by omega) (fun i s hi => ?_) (by rw [ha']; exact hC)
      rw [ha'] at hi
      by_cases hq : abv l p.1 = true ∧ blw a p.1 = true
      · rw [if_pos hq] at hi
        injection hi with hi
        injection hi with h1 h2
        exact ⟨p.2, by rw [← h1, ← h2]; exact hp⟩
      · rw [if_neg hq] at hi; exact ha i s hi
    -- behind the first comparison
    have st63 : ∀ b : Bool, abv l p.1 = b → wp G d 138 61 [some (.inr (.inl (some r))), some (.inl (n : Int)), some (.inl zl), some (.inl (slV n a)), some (.inl ((12 * n + k : Nat) : Int)), x5] [.inl (b01 b)] h 0 0 C X := by
      intro b hb
      cases b with
      | false =>
        have hz := nextA a (some (.inl 0)) (by rw [if_neg (fun q => by rw [hb] at q; simp at q)])
        generalize slV n a = za at *
        simp only [b01, Bool.false_eq_true, if_false]
        (repeat' (first | with_reducible assumption | (refine And.intro ?_ ?_) | (with_reducible intro _) | (simp [wp_eq, wpE, mk_X11_nextName, mg, mc_X11_nextName, lget, lset, popN, cats, rcv, entL, isArr, kC_s, kC_n, st1, st2, st3, st4, st5, st6, st7, st8, st9, st10, st11, st12, st13, st14, st15, st16, st17, st18, st19, st20, st21, st22, st23, st24, st25, st26, st27, st28, st29, st30, st31, st32, st33, st34, st35, st36, st37, st38, st39, st40, st41, st42, st43, st44, st45, st46, st47, st48, st49, st50, st51, st52, st53, st54, st55, st56, st57, st58, st59, st60, st61, st62, st63, st64, st65, st66, st67, st68, st69, st70, st71, st72, st73, st74, st75, st76, st77, st78, st79, st80, st81, st82, st83, st84, st85, st86, st87, st88, st89, st90, st91, R0, R_many, R_nameSizes, R_names, -Int.natCast_add, inR, show ((12 * n + k : Nat) : Int) + 1 = ((12 * n + (k + 1) : Nat) : Int) by omega]))) <;> (try (first | omega | exact hz))
      | true =>
        simp only [b01, if_true]
        cases a with
        | none =>
          have hz := nextA (some (k, p.1)) (some (.inl 1)) (by rw [if_pos ⟨hb, rfl⟩])
          simp only [slV] at hz ⊢
          (repeat' (first | with_reducible assumption | (refine And.intro ?_ ?_) | (with_reducible intro _) | (simp [wp_eq, wpE, mk_X11_nextName, mg, mc_X11_nextName, lget, lset, popN, cats, rcv, entL, isArr, kC_s, kC_n, st1, st2, st3, st4, st5, st6, st7, st8, st9, st10, st11, st12, st13, st14, st15, st16, st17, st18, st19, st20, st21, st22, st23, st24, st25, st26, st27, st28, st29, st30, st31, st32, st33, st34, st35, st36, st37, st38, st39, st40, st41, st42, st43, st44, st45, st46, st47, st48, st49, st50, st51, st52, st53, st54, st55, st56, st57, st58, st59, st60, st61, st62, st63, st64, st65, st66, st67, st68, st69, st70, st71, st72, st73, st74, st75, st76, st77, st78, st79, st80, st81, st82, st83, st84, st85, st86, st87, st88, st89, st90, st91, R0, R_many, R_nameSizes, R_names, -Int.natCast_add, inR, show ((12 * n + k : Nat) : Int) + 1 = ((12 * n + (k + 1) : Nat) : Int) by omega]))) <;> (try (first | omega | exact hz))
        | some q =>
          obtain ⟨i, s⟩ := q
          obtain ⟨x, hx⟩ := ha i s rfl
          have hil := (List.getElem?_eq_some_iff.mp hx).1
          obtain ⟨-, s2, s3, s4, s5, -⟩ := m3 i (s, x) hx
          simp only at s2 s3 s4 s5
          have cc : ∀ {C : mQ} {X : mX}, C (some (.inl (cmpv p.1 s))) h → callG (wp G) d 101 0 0 9 [.inr (.inl (some r)), .inl ((12 * n + k : Nat) : Int), .inr (.inl (some (r + 12))), .inl (14 * ((12 * n + i : Nat) : Int)), .inl (14 * ((12 * n + i : Nat) : Int) + (s.length : Int))] h C X := fun {C X} z => r_compareZ (e := 12 * n + k) (s := 14 * (12 * n + i)) (w := s) rfl (by omega) (by omega) HR (by omega) p2 p3 p4 s4 p5 R_names.2 (by omega) (by omega) s3 z
          by_cases hlt : cmpv p.1 s < 0
          · have hz := nextA (some (k, p.1)) (some (.inl 1)) (by rw [if_pos ⟨hb, by simp [blw, hlt]⟩])
            simp only [slV] at hz ⊢
            (repeat' (first | with_reducible assumption | (refine cc ?_) | (refine And.intro ?_ ?_) | (with_reducible intro _) | (simp [wp_eq, wpE, mk_X11_nextName, mg, mc_X11_nextName, lget, lset, popN, cats, rcv, entL, isArr, kC_s, kC_n, st1, st2, st3, st4, st5, st6, st7, st8, st9, st10, st11, st12, st13, st14, st15, st16, st17, st18, st19, st20, st21, st22, st23, st24, st25, st26, st27, st28, st29, st30, st31, st32, st33, st34, st35, st36, st37, st38, st39, st40, st41, st42, st43, st44, st45, st46, st47, st48, st49, st50, st51, st52, st53, st54, st55, st56, st57, st58, st59, st60, st61, st62, st63, st64, st65, st66, st67, st68, st69, st70, st71, st72, st73, st74, st75, st76, st77, st78, st79, st80, st81, st82, st83, st84, st85, st86, st87, st88, st89, st90, st91, R0, R_many, R_nameSizes, R_names, -Int.natCast_add, s2, hd0, hlt, inR, show ¬ 0 ≤ cmpv p.1 s by omega, show ¬ ((12 * n + i : Nat) : Int) < 0 by omega, show ((12 * n + k : Nat) : Int) + 1 = ((12 * n + (k + 1) : Nat) : Int) by omega]))) <;> (try (first | omega | exact hz))
          · have hz := nextA (some (i, s)) (some (.inl 1)) (by rw [if_neg (fun q => by have := q.2; simp [blw, hlt] at this)])
            simp only [slV] at hz ⊢
            (repeat' (first | with_reducible assumption | (refine cc ?_) | (refine And.intro ?_ ?_) | (with_reducible intro _) | (simp [wp_eq, wpE, mk_X11_nextName, mg, mc_X11_nextName, lget, lset, popN, cats, rcv, entL, isArr, kC_s, kC_n, st1, st2, st3, st4, st5, st6, st7, st8, st9, st10, st11, st12, st13, st14, st15, st16, st17, st18, st19, st20, st21, st22, st23, st24, st25, st26, st27, st28, st29, st30, st31, st32, st33, st34, st35, st36, st37, st38, st39, st40, st41, st42, st43, st44, st45, st46, st47, st48, st49, st50, st51, st52, st53, st54, st55, st56, st57, st58, st59, st60, st61, st62, st63, st64, st65, st66, st67, st68, st69, st70, st71, st72, st73, st74, st75, st76, st77, st78, st79, st80, st81, st82, st83, st84, st85, st86, st87, st88, st89, st90, st91, R0, R_many, R_nameSizes, R_names, -Int.natCast_add, s2, hd0, hlt, inR, show 0 ≤ cmpv p.1 s by omega, show ¬ ((12 * n + i : Nat) : Int) < 0 by omega, show ((12 * n + k : Nat) : Int) + 1 = ((12 * n + (k + 1) : Nat) : Int) by omega]))) <;> (try (first | omega | exact hz))
    rw [wp_hd]
    rcases hl with ⟨rfl, rfl⟩ | ⟨j, q, hj, rfl, rfl⟩
    · have hz := st63 true rfl
      simp only [b01, if_true] at hz
      generalize slV n a = za at *
      (repeat' (first | with_reducible assumption | (refine And.intro ?_ ?_) | (with_reducible intro _) | (simp [wp_ne 61, wpE, mk_X11_nextName, mg, mc_X11_nextName, lget, lset, popN, cats, rcv, entL, isArr, kC_s, kC_n, st1, st2, st3, st4, st5, st6, st7, st8, st9, st10, st11, st12, st13, st14, st15, st16, st17, st18, st19, st20, st21, st22, st23, st24, st25, st26, st27, st28, st29, st30, st31, st32, st33, st34, st35, st36, st37, st38, st39, st40, st41, st42, st43, st44, st45, st46, st47, st48, st49, st50, st51, st52, st53, st54, st55, st56, st57, st58, st59, st60, st61, st62, st63, st64, st65, st66, st67, st68, st69, st70, st71, st72, st73, st74, st75, st76, st77, st78, st79, st80, st81, st82, st83, st84, st85, st86, st87, st88, st89, st90, st91, R0, R_many, R_nameSizes, R_names, -Int.natCast_add, m1, em, hkm, inR]))) <;> (try (first | omega | exact hz))
    · obtain ⟨-, s2, s3, s4, s5, -⟩ := m3 j q hj
      have hjl := (List.getElem?_eq_some_iff.mp hj).1
      have cc : ∀ {C : mQ} {X : mX}, C (some (.inl (cmpv p.1 q.1))) h → callG (wp G) d 101 0 0 9 [.inr (.inl (some r)), .inl ((12 * n + k : Nat) : Int), .inr (.inl (some (r + 12))), .inl (14 * ((12 * n + j : Nat) : Int)), .inl (14 * ((12 * n + j : Nat) : Int) + (q.1.length : Int))] h C X := fun {C X} z => r_compareZ (e := 12 * n + k) (s := 14 * (12 * n + j)) (w := q.1) rfl (by omega) (by omega) HR (by omega) p2 p3 p4 s4 p5 R_names.2 (by omega) (by omega) s3 z
      by_cases hgt : 0 < cmpv p.1 q.1
      · have hz := st63 true (by simp [abv, hgt])
        simp only [b01, if_true] at hz
        generalize slV n a = za at *
        (repeat' (first | with_reducible assumption | (refine cc ?_) | (refine And.intro ?_ ?_) | (with_reducible intro _) | (simp [wp_ne 61, wpE, mk_X11_nextName, mg, mc_X11_nextName, lget, lset, popN, cats, rcv, entL, isArr, kC_s, kC_n, st1, st2, st3, st4, st5, st6, st7, st8, st9, st10, st11, st12, st13, st14, st15, st16, st17, st18, st19, st20, st21, st22, st23, st24, st25, st26, st27, st28, st29, st30, st31, st32, st33, st34, st35, st36, st37, st38, st39, st40, st41, st42, st43, st44, st45, st46, st47, st48, st49, st50, st51, st52, st53, st54, st55, st56, st57, st58, st59, st60, st61, st62, st63, st64, st65, st66, st67, st68, st69, st70, st71, st72, st73, st74, st75, st76, st77, st78, st79, st80, st81, st82, st83, st84, st85, st86, st87, st88, st89, st90, st91, R0, R_many, R_nameSizes, R_names, -Int.natCast_add, m1, em, hkm, s2, hd0, hgt, inR, show ¬ cmpv p.1 q.1 ≤ 0 by omega, show ¬ ((12 * n + j : Nat) : Int) < 0 by omega]))) <;> (try (first | omega | exact hz))
      · have hz := st63 false (by simp [abv, hgt])
        simp only [b01, Bool.false_eq_true, if_false] at hz
        generalize slV n a = za at *
        (repeat' (first | with_reducible assumption | (refine cc ?_) | (refine And.intro ?_ ?_) | (with_reducible intro _) | (simp [wp_ne 61, wpE, mk_X11_nextName, mg, mc_X11_nextName, lget, lset, popN, cats, rcv, entL, isArr, kC_s, kC_n, st1, st2, st3, st4, st5, st6, st7, st8, st9, st10, st11, st12, st13, st14, st15, st16, st17, st18, st19, st20, st21, st22, st23, st24, st25, st26, st27, st28, st29, st30, st31, st32, st33, st34, st35, st36, st37, st38, st39, st40, st41, st42, st43, st44, st45, st46, st47, st48, st49, st50, st51, st52, st53, st54, st55, st56, st57, st58, st59, st60, st61, st62, st63, st64, st65, st66, st67, st68, st69, st70, st71, st72, st73, st74, st75, st76, st77, st78, st79, st80, st81, st82, st83, st84, st85, st86, st87, st88, st89, st90, st91, R0, R_many, R_nameSizes, R_names, -Int.natCast_add, m1, em, hkm, s2, hd0, hgt, inR, show cmpv p.1 q.1 ≤ 0 by omega, show ¬ ((12 * n + j : Nat) : Int) < 0 by omega]))) <;> (try (first | omega | exact hz))
theorem nx2_ok {l : Option (List Int)} {E0 : List aE} : ∀ (E : List aE) (k : Nat) (a : Option (Nat × List Int)), E0.drop k = E → (∀ i s, a = some (i, s) → (∃ x, E0[i]? = some (s, x)) ∧ abv l s = true ∧ ∀ q ∈ E0.take k, abv l q.1 = true → ¬ cmpv q.1 s < 0) → (a = none → ∀ q ∈ E0.take k, ¬ abv l q.1 = true) →
    (∀ i s, nx2 l E k a = some (i, s) → (∃ x, E0[i]? = some (s, x)) ∧ abv l s = true ∧ ∀ q ∈ E0, abv l q.1 = true → ¬ cmpv q.1 s < 0) ∧ (nx2 l E k a = none → ∀ q ∈ E0, ¬ abv l q.1 = true) := by
  intro E
  induction E with
  | nil =>
    intro k a hd h1 h2
    have ht : E0.take k = E0 := by
      have := List.take_append_drop k E0
      rw [hd, List.append_nil] at this
      exact this
    rw [ht] at h1 h2
    exact ⟨h1, h2⟩
  | cons p E ih =>
    intro k a hd h1 h2
    have hp : E0[k]? = some p := by
      have : (E0.drop k)[0]? = some p := by rw [hd]; rfl
      rw [List.getElem?_drop] at this
      simpa using this
    have hkl := (List.getElem?_eq_some_iff.mp hp).1
    have ht : E0.take (k + 1) = E0.take k ++ [p] := by rw [List.take_succ, hp]; rfl
    have hd1 : E0.drop (k + 1) = E := by
      rw [← List.drop_drop, hd]; rfl
    simp only [nx2]
    refine ih (k + 1) _ hd1 (fun i s hi => ?_) (fun hi => ?_)
    · by_cases hq : abv l p.1 = true ∧ blw a p.1 = true
      · rw [if_pos hq] at hi
        injection hi with hi
        injection hi with e1 e2
        subst e1 e2
        refine ⟨⟨p.2, hp⟩, hq.1, fun q hq1 hq2 => ?_⟩
        rw [ht] at hq1
        rcases List.mem_append.mp hq1 with z | z
        · cases a with
          | none => exact absurd hq2 (h2 rfl q z)
          | some m =>
            have h3 := (h1 m.1 m.2 rfl).2.2 q z hq2
            have h4 : cmpv p.1 m.2 < 0 := by have := hq.2; simpa [blw] using this
            intro h5
            exact h3 (cmpv_tr _ _ _ h5 h4)
        · simp at z
          subst z
          have := (cmpv_0 q.1 q.1).mpr rfl
          omega
      · rw [if_neg hq] at hi
        obtain ⟨g1, g2, g3⟩ := h1 i s hi
        refine ⟨g1, g2, fun q hq1 hq2 => ?_⟩
        rw [ht] at hq1
        rcases List.mem_append.mp hq1 with z | z
        · exact g3 q z hq2
        · simp at z
          subst z
          intro h5
          exact hq ⟨hq2, by rw [hi]; simp [blw, h5]⟩
    · by_cases hq : abv l p.1 = true ∧ blw a p.1 = true
      · rw [if_pos hq] at hi; cases hi
      · rw [if_neg hq] at hi
        intro q hq1 hq2
        rw [ht] at hq1
        rcases List.mem_append.mp hq1 with z | z
        · exact h2 hi q z hq2
        · simp at z
          subst z
          exact hq ⟨hq2, by rw [hi]; rfl⟩
def LSl (n : Nat) (E A : List aE) (z : Int) : Prop := (A = [] ∧ z = -1) ∨ ∃ B p j, A = B ++ [p] ∧ E[j]? = some p ∧ z = ((12 * n + j : Nat) : Int)
/-- the next name is the first one behind, in the order -/
theorem r_nextName {G : Nat → Nat} {d r n : Nat} {h : mH} {C : mQ} {X : mX} {E A B : List aE} {zl : Int} (hd : 2 ≤ d) (hn : n < 48) (HR : RN r h) (H : RE r h n E) (hp : E.Perm (A ++ B)) (hs : srt (A ++ B)) (hl : LSl n E A zl)
    (hC0 : B = [] → C (some (.inl (-1))) h) (hC1 : ∀ p B', B = p :: B' → ∀ j, E[j]? = some p → C (some (.inl ((12 * n + j : Nat) : Int))) h) :
    callG (wp G) d 138 0 0 6 [.inr (.inl (some r)), .inl (n : Int), .inl zl] h C X := by
  have R0 := HR.1
  have hab : ∀ l, (A = [] → l = none) → (∀ A' p, A = A' ++ [p] → l = some p.1) → (∀ q ∈ A, ¬ abv l q.1 = true) ∧ ∀ q ∈ B, abv l q.1 = true := by
    intro l h0 h1
    unfold srt at hs
    rw [List.pairwise_append] at hs
    obtain ⟨sA, sB, sAB⟩ := hs
    rcases List.eq_nil_or_concat A with hA | ⟨A', p, hA⟩
    · rw [h0 hA]
      exact ⟨fun q hq => by rw [hA] at hq; simp at hq, fun q _ => rfl⟩
    · rw [List.concat_eq_append] at hA
      rw [h1 A' p hA]
      refine ⟨fun q hq => ?_, fun q hq => ?_⟩
      · rw [hA] at hq sA
        rw [List.pairwise_append] at sA
        rcases List.mem_append.mp hq with z | z
        · have := sA.2.2 q z p (by simp)
          simp [abv]; omega
        · simp at z
          subst z
          have := (cmpv_0 q.1 q.1).mpr rfl
          simp [abv]; omega
      · have := sAB p (by rw [hA]; simp) q hq
        have h2 := cmpv_neg p.1 q.1
        simp [abv]; omega
  have key : ∀ l, (∀ q ∈ A, ¬ abv l q.1 = true) ∧ (∀ q ∈ B, abv l q.1 = true) → C (some (.inl (slV n (nx2 l E 0 none)))) h := by
    intro l ⟨k1, k2⟩
    obtain ⟨n1, n2⟩ := nx2_ok (l := l) (E0 := E) E 0 none rfl (fun i s q => by cases q) (fun _ q hq => by simp at hq)
    cases hr : nx2 l E 0 none with
    | none =>
      have hB : B = [] := by
        cases hB : B with
        | nil => rfl
        | cons p B' =>
          have hm : p ∈ E := hp.symm.subset (by rw [hB]; simp)
          exact absurd (k2 p (by rw [hB]; simp)) (n2 hr p hm)
      exact hC0 hB
    | some m =>
      obtain ⟨i, s⟩ := m
      obtain ⟨⟨x, hx⟩, g2, g3⟩ := n1 i s hr
      have hm : (s, x) ∈ A ++ B := hp.subset (List.mem_of_getElem? hx)
      have hmB : (s, x) ∈ B := by
        rcases List.mem_append.mp hm with z | z
        · exact absurd g2 (k1 _ z)
        · exact z
      cases hB : B with
      | nil => rw [hB] at hmB; simp at hmB
      | cons p B' =>
        have hpE : p ∈ E := hp.symm.subset (by rw [hB]; simp)
        have hpn := g3 p hpE (k2 p (by rw [hB]; simp))
        have hsp : (s, x) = p := by
          rw [hB] at hmB
          rcases List.mem_cons.mp hmB with z | z
          · exact z
          · unfold srt at hs
            rw [List.pairwise_append, hB] at hs
            have := (List.pairwise_cons.mp hs.2.1).1 _ z
            exact absurd this hpn
        exact hC1 p B' hB i (by rw [← hsp]; exact hx)
  have hl' : ∃ l, ((l = none ∧ zl = -1) ∨ ∃ j p, E[j]? = some p ∧ l = some p.1 ∧ zl = ((12 * n + j : Nat) : Int)) ∧ (A = [] → l = none) ∧ ∀ A' p, A = A' ++ [p] → l = some p.1 := by
    rcases hl with ⟨h1, h2⟩ | ⟨A', p, j, h1, h2, h3⟩
    · exact ⟨none, Or.inl ⟨rfl, h2⟩, fun _ => rfl, fun A' p q => by rw [h1] at q; simp at q⟩
    · refine ⟨some p.1, Or.inr ⟨j, p, h2, rfl, h3⟩, fun q => by rw [h1] at q; simp at q, fun A2 p2 q => ?_⟩
      rw [h1] at q
      have := List.append_inj_right' q rfl
      injection this with this
      rw [this]
  obtain ⟨l, hl1, hl2, hl3⟩ := hl'
  have hfin := key l (hab l hl2 hl3)
  refine cg 1 (by omega) (fun d hd => ?_)
  have hd0 : (0 < d) = True := eq_true (by omega)
  have hz := rn_loop (G := G) (d := d) (C := C) (X := fun _ _ => False) (by omega) hn HR H hl1 E.length 0 none none (by omega) (fun i s q => by cases q) (by rw [List.drop_zero]; exact hfin)
  simp only [slV, Nat.add_zero] at hz
  rw [show ((12 * n : Nat) : Int) = 12 * (n : Int) by omega] at hz
  (repeat' (first | with_reducible assumption | (refine And.intro ?_ ?_) | (with_reducible intro _) | (simp [wp_eq, wpE, mk_X11_nextName, mg, mc_X11_nextName, lget, lset, popN, cats, rcv, entL, isArr, kC_s, kC_n, st1, st2, st3, st4, st5, st6, st7, st8, st9, st10, st11, st12, st13, st14, st15, st16, st17, st18, st19, st20, st21, st22, st23, st24, st25, st26, st27, st28, st29, st30, st31, st32, st33, st34, st35, st36, st37, st38, st39, st40, st41, st42, st43, st44, st45, st46, st47, st48, st49, st50, st51, st52, st53, st54, st55, st56, st57, st58, st59, st60, st61, st62, st63, st64, st65, st66, st67, st68, st69, st70, st71, st72, st73, st74, st75, st76, st77, st78, st79, st80, st81, st82, st83, st84, st85, st86, st87, st88, st89, st90, st91, R0, inR]))) <;> (try (first | omega | exact hz))
