theorem FA_pr {c : Nat} {h : mH} {L : List Int} {T : aT} {here : Nat} {K : List aK} {pr : Int} {s : aS} {cp bad : Int} (H : FA c h L T here K pr s cp bad) : FA c (hsetI h (c + 19) 9 0) L T here K pr (false, s.2) cp bad := by
  have HH := H
  obtain ⟨f1, f2, f3, ⟨k6, k7, k9, k10⟩, f5⟩ := HH
  exact FA_ch H (chI_set (by unfold SA; omega)) (PG_set (by omega) (by omega) f1.2.2.2.2.2.1) (by rw [hvi_I, if_neg (by omega)]; exact k6) (by rw [hvi_I, if_neg (by omega)]; exact k7) (by rw [hvi_I, if_neg (by omega)]; exact f1.2.2.2.2.2.2.1) (by rw [hvi_I, if_pos (by omega)]; simp [b01]) (by rw [hvi_I, if_neg (by omega)]; exact k10) f5
theorem f_visit {G : Nat → Nat} {c here : Nat} {L : List Int} {T : aT} {K : List aK} {pr bad : Int} (E : EV L T here K pr) : ∀ f, VC G c L T here K pr bad f := by
  intro f
  induction f with
  | zero =>
    intro d n fr dep h C X w P u hf hd hn HF hu hP bP hP1 hPl hs hfw hw hC
    have CFh := HF.1.1
    have HT := HF.1.2.2.1
    have x1 : hty h (c + 19) = some (2, 14) := CFh.1 (19, 2, 14) (by decide)
    have x2 : hvr h (c + 19) 0 = some (c + 5) := CFh.2 (19, 0, 5) (by decide)
    have x3 := HT.1
    have hz := hC h chI_refl HF hP
    have h48 : (48 : Int) ≤ (dep : Int) := by omega
    refine cg 9 (by omega) (fun d hd => ?_)
    have hd0 : (0 < d) = True := eq_true (by omega)
    cases hT : hvr h (c + 5 + 1) n with
    | none =>
      have ca : ∀ {C : mQ} {X : mX}, C (some (.inr (.inl none))) h → callG (wp G) d 48 0 0 2 [.inr (.inl (some (c + 5))), .inl (n : Int)] h C X := fun {C X} z => c_atN hn HT (by rw [hT]; exact z)
      (repeat' (first | with_reducible assumption | (refine ca ?_) | (refine And.intro ?_ ?_) | (with_reducible intro _) | (simp [wp_eq, wpE, mk_X2_visit, mg, mc_X2_visit, lget, lset, popN, cats, rcv, entL, isArr, kC_s, kC_n, st1, st2, st3, st4, st5, st6, st7, st8, st9, st10, st11, st12, st13, st14, st15, st16, st17, st18, st19, st20, st21, st22, st23, st24, st25, st26, st27, st28, st29, st30, st31, st32, st33, st34, st35, st36, st37, st38, st39, st40, st41, st42, st43, st44, st45, st46, st47, st48, st49, st50, st51, st52, st53, st54, st55, st56, st57, st58, st59, st60, st61, st62, st63, st64, st65, st66, st67, st68, st69, st70, st71, st72, st73, st74, st75, st76, st77, st78, st79, st80, st81, st82, st83, st84, st85, st86, st87, st88, st89, st90, st91, -Int.natCast_add, x1, x2, x3, hd0, h48]))) <;> (try (first | omega | exact hz))
    | some a =>
      have ca : ∀ {C : mQ} {X : mX}, C (some (.inr (.inl (some a)))) h → callG (wp G) d 48 0 0 2 [.inr (.inl (some (c + 5))), .inl (n : Int)] h C X := fun {C X} z => c_atN hn HT (by rw [hT]; exact z)
      (repeat' (first | with_reducible assumption | (refine ca ?_) | (refine And.intro ?_ ?_) | (with_reducible intro _) | (simp [wp_eq, wpE, mk_X2_visit, mg, mc_X2_visit, lget, lset, popN, cats, rcv, entL, isArr, kC_s, kC_n, st1, st2, st3, st4, st5, st6, st7, st8, st9, st10, st11, st12, st13, st14, st15, st16, st17, st18, st19, st20, st21, st22, st23, st24, st25, st26, st27, st28, st29, st30, st31, st32, st33, st34, st35, st36, st37, st38, st39, st40, st41, st42, st43, st44, st45, st46, st47, st48, st49, st50, st51, st52, st53, st54, st55, st56, st57, st58, st59, st60, st61, st62, st63, st64, st65, st66, st67, st68, st69, st70, st71, st72, st73, st74, st75, st76, st77, st78, st79, st80, st81, st82, st83, st84, st85, st86, st87, st88, st89, st90, st91, -Int.natCast_add, x1, x2, x3, hd0, h48]))) <;> (try (first | omega | exact hz))
  | succ f ih =>
    intro d n fr dep h C X w P u hf hd hn HF hu hP bP hP1 hPl hs hfw hw hC
    have CFh := HF.1.1
    have HT := HF.1.2.2.1
    have x1 : hty h (c + 19) = some (2, 14) := CFh.1 (19, 2, 14) (by decide)
    have x2 : hvr h (c + 19) 0 = some (c + 5) := CFh.2 (19, 0, 5) (by decide)
    have x3 := HT.1
    have h48 : ¬ (48 : Int) ≤ (dep : Int) := by omega
    simp only [vis] at hC
    refine cg (2 * f + 11) (by omega) (fun d hd => ?_)
    have hd0 : (0 < d) = True := eq_true (by omega)
    cases hTn : T n with
    | none =>
      rw [hTn] at hC
      have hz := hC h chI_refl HF hP
      have hT := HT.2.2.2.2.2.1 n hn hTn
      have ca : ∀ {C : mQ} {X : mX}, C (some (.inr (.inl none))) h → callG (wp G) d 48 0 0 2 [.inr (.inl (some (c + 5))), .inl (n : Int)] h C X := fun {C X} z => c_atN hn HT (by rw [hT]; exact z)
      (repeat' (first | with_reducible assumption | (refine ca ?_) | (refine And.intro ?_ ?_) | (with_reducible intro _) | (simp [wp_eq, wpE, mk_X2_visit, mg, mc_X2_visit, lget, lset, popN, cats, rcv, entL, isArr, kC_s, kC_n, st1, st2, st3, st4, st5, st6, st7, st8, st9, st10, st11, st12, st13, st14, st15, st16, st17, st18, st19, st20, st21, st22, st23, st24, st25, st26, st27, st28, st29, st30, st31, st32, st33, st34, st35, st36, st37, st38, st39, st40, st41, st42, st43, st44, st45, st46, st47, st48, st49, st50, st51, st52, st53, st54, st55, st56, st57, st58, st59, st60, st61, st62, st63, st64, st65, st66, st67, st68, st69, st70, st71, st72, st73, st74, st75, st76, st77, st78, st79, st80, st81, st82, st83, st84, st85, st86, st87, st88, st89, st90, st91, -Int.natCast_add, x1, x2, x3, hd0, h48]))) <;> (try (first | omega | exact hz))
    | some v =>
      rw [hTn] at hC
      simp only at hC
      obtain ⟨a, hT, hv⟩ := HT.2.2.2.2.2.2.1 n v hn hTn
      have ca : ∀ {C : mQ} {X : mX}, C (some (.inr (.inl (some a)))) h → callG (wp G) d 48 0 0 2 [.inr (.inl (some (c + 5))), .inl (n : Int)] h C X := fun {C X} z => c_atN hn HT (by rw [hT]; exact z)
      have k10 := HF.2.2.2.1.2.2.2
      have e7 : ∀ h', FA c h' L T here K pr u.1 u.2 bad → True := fun _ _ => trivial
      cases hfu : u.1.2.2.2 with
      | true =>
        rw [hfu, if_pos rfl] at hC
        rw [hfu] at k10
        simp [b01] at k10
        have hz := hC h chI_refl HF hP
        (repeat' (first | with_reducible assumption | (refine ca ?_) | (refine And.intro ?_ ?_) | (with_reducible intro _) | (simp [wp_eq, wpE, mk_X2_visit, mg, mc_X2_visit, lget, lset, popN, cats, rcv, entL, isArr, kC_s, kC_n, st1, st2, st3, st4, st5, st6, st7, st8, st9, st10, st11, st12, st13, st14, st15, st16, st17, st18, st19, st20, st21, st22, st23, st24, st25, st26, st27, st28, st29, st30, st31, st32, st33, st34, st35, st36, st37, st38, st39, st40, st41, st42, st43, st44, st45, st46, st47, st48, st49, st50, st51, st52, st53, st54, st55, st56, st57, st58, st59, st60, st61, st62, st63, st64, st65, st66, st67, st68, st69, st70, st71, st72, st73, st74, st75, st76, st77, st78, st79, st80, st81, st82, st83, st84, st85, st86, st87, st88, st89, st90, st91, -Int.natCast_add, x1, x2, x3, hd0, h48, k10]))) <;> (try (first | omega | exact hz))
      | false =>
        rw [hfu, if_neg (by simp)] at hC
        rw [hfu] at k10
        simp [b01] at k10
        have ndk : ∀ h', chI (SA c) h h' → ND h' a v := fun h' q => ND_ch (ch_ofI q) (fun x hx => SF_frn CFh x (SA_SF hx)) hv
        have roQ : ∀ h1 h', chI (SQ c) h1 h' → ro h1 (c + 25) 0 P → ro h' (c + 25) 0 P := fun h1 h' q r j hj => by rw [q.2.2.2.2 _ _ (by unfold SQ; omega)]; exact r j hj
        -- the last stage
        have s3 : ∀ (h3 : mH) (u3 : aU) (x7 : Option mV), chI (SA c) h h3 → FA c h3 L T here K pr u3.1 u3.2 bad → ro h3 (c + 25) 0 P → (∀ h', chI (SA c) h h' → FA c h' L T here K pr (vs3 L T here K pr v w P u3).1 (vs3 L T here K pr v w P u3).2 bad → ro h' (c + 25) 0 P → C none h') →
            wp G d 14 109 [some (.inr (.inl (some (c + 19)))), some (.inl (n : Int)), some (.inl (fr : Int)), some (.inl ((fr + w.length : Nat) : Int)), some (.inl (P.length : Int)), some (.inl (dep : Int)), some (.inr (.inl (some a))), x7] [] h3 0 0 C (fun _ _ => False) := by
          intro h3 u3 x7 q3 F3 r3 hC3
          have CF3 := F3.1.1
          have z1 : hty h3 (c + 19) = some (2, 14) := CF3.1 (19, 2, 14) (by decide)
          have z2 : hvr h3 (c + 19) 1 = some (c + 14) := CF3.2 (19, 1, 14) (by decide)
          have z3 : hty h3 (c + 14) = some (1, 8) := CF3.1 (14, 1, 8) (by decide)
          have z7 : hvi h3 (c + 14) 7 = b01 (dpK K) := F3.2.1.2.2.2.1
          have z10 := F3.2.2.2.1.2.2.2
          have zv := (ndk h3 q3).1
          unfold vs3 at hC3
          cases hdp : dpK K with
          | false =>
            rw [hdp] at z7
            rw [hdp, if_neg (by simp)] at hC3
            simp [b01] at z7
            have hz := hC3 h3 q3 F3 r3
            (repeat' (first | with_reducible assumption | (refine And.intro ?_ ?_) | (with_reducible intro _) | (simp [wp_eq, wpE, mk_X2_visit, mg, mc_X2_visit, lget, lset, popN, cats, rcv, entL, isArr, kC_s, kC_n, st1, st2, st3, st4, st5, st6, st7, st8, st9, st10, st11, st12, st13, st14, st15, st16, st17, st18, st19, st20, st21, st22, st23, st24, st25, st26, st27, st28, st29, st30, st31, st32, st33, st34, st35, st36, st37, st38, st39, st40, st41, st42, st43, st44, st45, st46, st47, st48, st49, st50, st51, st52, st53, st54, st55, st56, st57, st58, st59, st60, st61, st62, st63, st64, st65, st66, st67, st68, st69, st70, st71, st72, st73, st74, st75, st76, st77, st78, st79, st80, st81, st82, st83, st84, st85, st86, st87, st88, st89, st90, st91, z1, z2, z3, z7]))) <;> (try (first | omega | exact hz))
          | true =>
            rw [hdp] at z7
            simp [b01] at z7
            cases hf3 : u3.1.2.2.2 with
            | true =>
              rw [hf3] at z10
              rw [hdp, hf3, if_neg (by simp)] at hC3
              simp [b01] at z10
              have hz := hC3 h3 q3 F3 r3
              (repeat' (first | with_reducible assumption | (refine And.intro ?_ ?_) | (with_reducible intro _) | (simp [wp_eq, wpE, mk_X2_visit, mg, mc_X2_visit, lget, lset, popN, cats, rcv, entL, isArr, kC_s, kC_n, st1, st2, st3, st4, st5, st6, st7, st8, st9, st10, st11, st12, st13, st14, st15, st16, st17, st18, st19, st20, st21, st22, st23, st24, st25, st26, st27, st28, st29, st30, st31, st32, st33, st34, st35, st36, st37, st38, st39, st40, st41, st42, st43, st44, st45, st46, st47, st48, st49, st50, st51, st52, st53, st54, st55, st56, st57, st58, st59, st60, st61, st62, st63, st64, st65, st66, st67, st68, st69, st70, st71, st72, st73, st74, st75, st76, st77, st78, st79, st80, st81, st82, st83, st84, st85, st86, st87, st88, st89, st90, st91, z1, z2, z3, z7, z10]))) <;> (try (first | omega | exact hz))
            | false =>
              rw [hf3] at z10
              rw [hdp, hf3, if_pos (by simp)] at hC3
              simp [b01] at z10
              simp [wp_eq, wpE, mk_X2_visit, mg, mc_X2_visit, lget, lset, popN, cats, rcv, entL, isArr, kC_s, kC_n, st1, st2, st3, st4, st5, st6, st7, st8, st9, st10, st11, st12, st13, st14, st15, st16, st17, st18, st19, st20, st21, st22, st23, st24, st25, st26, st27, st28, st29, st30, st31, st32, st33, st34, st35, st36, st37, st38, st39, st40, st41, st42, st43, st44, st45, st46, st47, st48, st49, st50, st51, st52, st53, st54, st55, st56, st57, st58, st59, st60, st61, st62, st63, st64, st65, st66, st67, st68, st69, st70, st71, st72, st73, st74, st75, st76, st77, st78, st79, st80, st81, st82, st83, st84, st85, st86, st87, st88, st89, st90, st91, -Int.natCast_add, z1, z2, z3, z7, z10, zv, hd0]
              refine f_asN E (by omega) F3 (ndk h3 q3) hTn r3 bP (by omega) hs hfw hw (fun zzh zz1 zz2 => ?_)
              have hz := hC3 zzh (chI_trans q3 (chI_mono (fun a => SQ_SA) zz1)) zz2 (roQ _ _ zz1 r3)
              (repeat' (first | with_reducible assumption | (refine And.intro ?_ ?_) | (with_reducible intro _) | (simp [wp_eq, wpE, mk_X2_visit, mg, mc_X2_visit, lget, lset, popN, cats, rcv, entL, isArr, kC_s, kC_n, st1, st2, st3, st4, st5, st6, st7, st8, st9, st10, st11, st12, st13, st14, st15, st16, st17, st18, st19, st20, st21, st22, st23, st24, st25, st26, st27, st28, st29, st30, st31, st32, st33, st34, st35, st36, st37, st38, st39, st40, st41, st42, st43, st44, st45, st46, st47, st48, st49, st50, st51, st52, st53, st54, st55, st56, st57, st58, st59, st60, st61, st62, st63, st64, st65, st66, st67, st68, st69, st70, st71, st72, st73, st74, st75, st76, st77, st78, st79, st80, st81, st82, st83, st84, st85, st86, st87, st88, st89, st90, st91]))) <;> (try (first | omega | exact hz))
        -- the stage of the branches
        have s2 : ∀ (h2 : mH) (u2 : aU), chI (SA c) h h2 → FA c h2 L T here K pr u2.1 u2.2 bad → u2.2 = u.2 → ro h2 (c + 25) 0 P → (∀ h', chI (SA c) h h' → FA c h' L T here K pr (vs3 L T here K pr v w P (vs2 (fun n w P u => vis L T here K pr f n w P u) K v P u2)).1 (vs3 L T here K pr v w P (vs2 (fun n w P u => vis L T here K pr f n w P u) K v P u2)).2 bad → ro h' (c + 25) 0 P → C none h') →
            wp G d 14 55 [some (.inr (.inl (some (c + 19)))), some (.inl (n : Int)), some (.inl (fr : Int)), some (.inl ((fr + w.length : Nat) : Int)), some (.inl (P.length : Int)), some (.inl (dep : Int)), some (.inr (.inl (some a))), none] [] h2 0 0 C (fun _ _ => False) := by
          intro h2 u2 q2 F2 hu2 r2 hC2
          have CF2 := F2.1.1
          have z1 : hty h2 (c + 19) = some (2, 14) := CF2.1 (19, 2, 14) (by decide)
          have z2 : hvr h2 (c + 19) 1 = some (c + 14) := CF2.2 (19, 1, 14) (by decide)
          have z3 : hty h2 (c + 14) = some (1, 8) := CF2.1 (14, 1, 8) (by decide)
          have z7 : hvi h2 (c + 14) 7 = b01 (dpK K) := F2.2.1.2.2.2.1
          have z9 := F2.2.2.2.1.2.2.1
          have z10 := F2.2.2.2.1.2.2.2
          have zv := (ndk h2 q2).1
          have zk := (ndk h2 q2).2.1
          have fin : ∀ x7, ¬ (nK v = 0 ∧ ¬ (u2.1.1 = true ∧ dpK K = false) ∧ u2.1.2.2.2 = false) → wp G d 14 109 [some (.inr (.inl (some (c + 19)))), some (.inl (n : Int)), some (.inl (fr : Int)), some (.inl ((fr + w.length : Nat) : Int)), some (.inl (P.length : Int)), some (.inl (dep : Int)), some (.inr (.inl (some a))), x7] [] h2 0 0 C (fun _ _ => False) := by
            intro x7 hn
            unfold vs2 at hC2
            rw [if_neg hn] at hC2
            exact s3 h2 u2 x7 q2 F2 r2 hC2
          have bel1 : ∀ x7, nK v = 0 ∧ ¬ (u2.1.1 = true ∧ dpK K = false) ∧ u2.1.2.2.2 = false → callG (wp G) d 15 0 0 8 [.inr (.inl (some (c + 19))), .inr (.inl (some a)), .inl (P.length : Int), .inl (dep : Int)] h2 (kC G d 14 109 [some (.inr (.inl (some (c + 19)))), some (.inl (n : Int)), some (.inl (fr : Int)), some (.inl ((fr + w.length : Nat) : Int)), some (.inl (P.length : Int)), some (.inl (dep : Int)), some (.inr (.inl (some a))), x7] [] 0 0 C (fun _ _ => False)) (kX G d 14 0 0 [some (.inr (.inl (some (c + 19)))), some (.inl (n : Int)), some (.inl (fr : Int)), some (.inl ((fr + w.length : Nat) : Int)), some (.inl (P.length : Int)), some (.inl (dep : Int)), some (.inr (.inl (some a))), x7] 0 0 C (fun _ _ => False)) := by
            intro x7 hy
            unfold vs2 at hC2
            rw [if_pos hy] at hC2
            refine f_below E ih (by omega) (by omega) (ndk h2 q2) hTn hy.1 F2 (by omega) r2 bP hP1 (by omega) (fun zzh zz1 zz2 zz3 => ?_)
            exact s3 zzh _ x7 (chI_trans q2 zz1) zz2 zz3 hC2
          by_cases hk : nK v = 0
          · cases hf2 : u2.1.2.2.2 with
            | true =>
              rw [hf2] at z10 fin
              simp [b01] at z10
              have hz := fun x7 => fin x7 (by simp)
              cases hp2 : u2.1.1 <;> cases hdp : dpK K
              all_goals
                rw [hp2] at z9
                rw [hdp] at z7
                simp [b01] at z9 z7
                (repeat' (first | with_reducible assumption | (refine And.intro ?_ ?_) | (with_reducible intro _) | (simp [wp_ne 109, wpE, mk_X2_visit, mg, mc_X2_visit, lget, lset, popN, cats, rcv, entL, isArr, kC_s, kC_n, st1, st2, st3, st4, st5, st6, st7, st8, st9, st10, st11, st12, st13, st14, st15, st16, st17, st18, st19, st20, st21, st22, st23, st24, st25, st26, st27, st28, st29, st30, st31, st32, st33, st34, st35, st36, st37, st38, st39, st40, st41, st42, st43, st44, st45, st46, st47, st48, st49, st50, st51, st52, st53, st54, st55, st56, st57, st58, st59, st60, st61, st62, st63, st64, st65, st66, st67, st68, st69, st70, st71, st72, st73, st74, st75, st76, st77, st78, st79, st80, st81, st82, st83, st84, st85, st86, st87, st88, st89, st90, st91, -Int.natCast_add, z1, z2, z3, z7, z9, z10, zv, zk, hk]))) <;> (try (first | omega | exact hz))
                all_goals first | omega | exact hz _
            | false =>
              rw [hf2] at z10 fin bel1
              simp [b01] at z10
              cases hp2 : u2.1.1 <;> cases hdp : dpK K
              all_goals
                rw [hp2] at z9 fin bel1
                rw [hdp] at z7 fin bel1
                simp [b01] at z9 z7
                first
                  | (have hz := fun x7 => bel1 x7 (by simp [hk])
                     simp [wp_ne 109, wpE, mk_X2_visit, mg, mc_X2_visit, lget, lset, popN, cats, rcv, entL, isArr, kC_s, kC_n, st1, st2, st3, st4, st5, st6, st7, st8, st9, st10, st11, st12, st13, st14, st15, st16, st17, st18, st19, st20, st21, st22, st23, st24, st25, st26, st27, st28, st29, st30, st31, st32, st33, st34, st35, st36, st37, st38, st39, st40, st41, st42, st43, st44, st45, st46, st47, st48, st49, st50, st51, st52, st53, st54, st55, st56, st57, st58, st59, st60, st61, st62, st63, st64, st65, st66, st67, st68, st69, st70, st71, st72, st73, st74, st75, st76, st77, st78, st79, st80, st81, st82, st83, st84, st85, st86, st87, st88, st89, st90, st91, -Int.natCast_add, z1, z2, z3, z7, z9, z10, zv, zk, hk, hd0]
                     exact hz _)
                  | (have hz := fun x7 => fin x7 (by simp)
                     simp [wp_ne 109, wpE, mk_X2_visit, mg, mc_X2_visit, lget, lset, popN, cats, rcv, entL, isArr, kC_s, kC_n, st1, st2, st3, st4, st5, st6, st7, st8, st9, st10, st11, st12, st13, st14, st15, st16, st17, st18, st19, st20, st21, st22, st23, st24, st25, st26, st27, st28, st29, st30, st31, st32, st33, st34, st35, st36, st37, st38, st39, st40, st41, st42, st43, st44, st45, st46, st47, st48, st49, st50, st51, st52, st53, st54, st55, st56, st57, st58, st59, st60, st61, st62, st63, st64, st65, st66, st67, st68, st69, st70, st71, st72, st73, st74, st75, st76, st77, st78, st79, st80, st81, st82, st83, st84, st85, st86, st87, st88, st89, st90, st91, -Int.natCast_add, z1, z2, z3, z7, z9, z10, zv, zk, hk, hd0]
                     exact hz _)
          · have hz := fun x7 => fin x7 (fun q => hk q.1)
            cases hp2 : u2.1.1 <;> cases hdp : dpK K
            all_goals
              rw [hp2] at z9
              rw [hdp] at z7
              simp [b01] at z9 z7
              (repeat' (first | with_reducible assumption | (refine And.intro ?_ ?_) | (with_reducible intro _) | (simp [wp_ne 109, wpE, mk_X2_visit, mg, mc_X2_visit, lget, lset, popN, cats, rcv, entL, isArr, kC_s, kC_n, st1, st2, st3, st4, st5, st6, st7, st8, st9, st10, st11, st12, st13, st14, st15, st16, st17, st18, st19, st20, st21, st22, st23, st24, st25, st26, st27, st28, st29, st30, st31, st32, st33, st34, st35, st36, st37, st38, st39, st40, st41, st42, st43, st44, st45, st46, st47, st48, st49, st50, st51, st52, st53, st54, st55, st56, st57, st58, st59, st60, st61, st62, st63, st64, st65, st66, st67, st68, st69, st70, st71, st72, st73, st74, st75, st76, st77, st78, st79, st80, st81, st82, st83, st84, st85, st86, st87, st88, st89, st90, st91, -Int.natCast_add, z1, z2, z3, z7, z9, zv, zk, hk]))) <;> (try (first | omega | exact hz))
              all_goals first | omega | exact hz _
        -- the beginning
        have q1 : chI (SA c) h (hsetI h (c + 19) 9 0) := chI_set (by unfold SA; omega)
        have F1 := FA_pr HF
        have r1 : ro (hsetI h (c + 19) 9 0) (c + 25) 0 P := fun j hj => by rw [hvi_I, if_neg (by omega)]; exact hP j hj
        have CF1 := F1.1.1
        have z1 : hty (hsetI h (c + 19) 9 0) (c + 19) = some (2, 14) := CF1.1 (19, 2, 14) (by decide)
        have z2 : hvr (hsetI h (c + 19) 9 0) (c + 19) 1 = some (c + 14) := CF1.2 (19, 1, 14) (by decide)
        have z3 : hty (hsetI h (c + 19) 9 0) (c + 14) = some (1, 8) := CF1.1 (14, 1, 8) (by decide)
        have z7 : hvi (hsetI h (c + 19) 9 0) (c + 14) 7 = b01 (dpK K) := F1.2.1.2.2.2.1
        have zv := (ndk _ q1).1
        have nd1 := ndk _ q1
        generalize hh1 : hsetI h (c + 19) 9 0 = h1 at *
        unfold vs1 at hC
        cases hdp : dpK K with
        | true =>
          rw [hdp, if_pos rfl] at hC
          rw [hdp] at z7
          simp [b01] at z7
          have hz := s2 h1 ((false, u.1.2), u.2) q1 F1 rfl r1 hC
          (repeat' (first | with_reducible assumption | (refine ca ?_) | (refine And.intro ?_ ?_) | (with_reducible intro _) | (simp [wp_ne 55, wpE, mk_X2_visit, mg, mc_X2_visit, lget, lset, popN, cats, rcv, entL, isArr, kC_s, kC_n, st1, st2, st3, st4, st5, st6, st7, st8, st9, st10, st11, st12, st13, st14, st15, st16, st17, st18, st19, st20, st21, st22, st23, st24, st25, st26, st27, st28, st29, st30, st31, st32, st33, st34, st35, st36, st37, st38, st39, st40, st41, st42, st43, st44, st45, st46, st47, st48, st49, st50, st51, st52, st53, st54, st55, st56, st57, st58, st59, st60, st61, st62, st63, st64, st65, st66, st67, st68, st69, st70, st71, st72, st73, st74, st75, st76, st77, st78, st79, st80, st81, st82, st83, st84, st85, st86, st87, st88, st89, st90, st91, -Int.natCast_add, hh1, x1, x2, x3, hd0, h48, k10, z1, z2, z3, z7]))) <;> (try (first | omega | exact hz))
        | false =>
          rw [hdp, if_neg (by simp)] at hC
          rw [hdp] at z7
          simp [b01] at z7
          simp [wp_ne 55, wpE, mk_X2_visit, mg, mc_X2_visit, lget, lset, popN, cats, rcv, entL, isArr, kC_s, kC_n, st1, st2, st3, st4, st5, st6, st7, st8, st9, st10, st11, st12, st13, st14, st15, st16, st17, st18, st19, st20, st21, st22, st23, st24, st25, st26, st27, st28, st29, st30, st31, st32, st33, st34, st35, st36, st37, st38, st39, st40, st41, st42, st43, st44, st45, st46, st47, st48, st49, st50, st51, st52, st53, st54, st55, st56, st57, st58, st59, st60, st61, st62, st63, st64, st65, st66, st67, st68, st69, st70, st71, st72, st73, st74, st75, st76, st77, st78, st79, st80, st81, st82, st83, st84, st85, st86, st87, st88, st89, st90, st91, -Int.natCast_add, x1, x2, x3, hd0]
          refine ca ?_
          simp [wp_ne 55, wpE, mk_X2_visit, mg, mc_X2_visit, lget, lset, popN, cats, rcv, entL, isArr, kC_s, kC_n, st1, st2, st3, st4, st5, st6, st7, st8, st9, st10, st11, st12, st13, st14, st15, st16, st17, st18, st19, st20, st21, st22, st23, st24, st25, st26, st27, st28, st29, st30, st31, st32, st33, st34, st35, st36, st37, st38, st39, st40, st41, st42, st43, st44, st45, st46, st47, st48, st49, st50, st51, st52, st53, st54, st55, st56, st57, st58, st59, st60, st61, st62, st63, st64, st65, st66, st67, st68, st69, st70, st71, st72, st73, st74, st75, st76, st77, st78, st79, st80, st81, st82, st83, st84, st85, st86, st87, st88, st89, st90, st91, -Int.natCast_add, hh1, x1, hd0, h48, k10, z1, z2, z3, z7, zv]
          intro _
          refine f_asN E (by omega) F1 nd1 hTn r1 bP (by omega) hs hfw hw (fun zzh zz1 zz2 => ?_)
          have hz := s2 zzh (asN L T here K pr v w P (false, u.1.2), u.2) (chI_trans q1 (chI_mono (fun a => SQ_SA) zz1)) zz2 rfl (roQ _ _ zz1 r1) hC
          (repeat' (first | with_reducible assumption | (refine And.intro ?_ ?_) | (with_reducible intro _) | (simp [wp_ne 55, wpE, mk_X2_visit, mg, mc_X2_visit, lget, lset, popN, cats, rcv, entL, isArr, kC_s, kC_n, st1, st2, st3, st4, st5, st6, st7, st8, st9, st10, st11, st12, st13, st14, st15, st16, st17, st18, st19, st20, st21, st22, st23, st24, st25, st26, st27, st28, st29, st30, st31, st32, st33, st34, st35, st36, st37, st38, st39, st40, st41, st42, st43, st44, st45, st46, st47, st48, st49, st50, st51, st52, st53, st54, st55, st56, st57, st58, st59, st60, st61, st62, st63, st64, st65, st66, st67, st68, st69, st70, st71, st72, st73, st74, st75, st76, st77, st78, st79, st80, st81, st82, st83, st84, st85, st86, st87, st88, st89, st90, st91]))) <;> (try (first | omega | exact hz))
