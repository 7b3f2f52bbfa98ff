/-! THE CLASS GOES THROUGH the tree -/
def EV (L : List Int) (T : aT) (here : Nat) (K : List aK) (pr : Int) : Prop := wf T here ∧ (∀ t ∈ K, 1 ≤ t.1 ∧ t.1 ≤ 14) ∧ okz (zK K) 0 false ∧ okF K ∧ 0 ≤ pr ∧ pr ≤ 999999
theorem ro_seg {h : mH} {a fr : Nat} {P w : List Int} (H : ro h a 0 P) (hs : ∀ i, i < w.length → lf w i = lf P (fr + i)) (hl : fr + w.length ≤ P.length) : ro h a fr w := fun i hi => by
  have := H (fr + i) (by omega)
  rw [hs i hi, ← this]
  simp
theorem f_asN {G : Nat → Nat} {d c here a fr : Nat} {h : mH} {C : mQ} {X : mX} {L : List Int} {T : aT} {K : List aK} {pr : Int} {s : aS} {cp bad : Int} {v : aN} {w P : List Int} (E : EV L T here K pr) (hd : 6 ≤ d) (H : FA c h L T here K pr s cp bad) (hv : ND h a v) {n : Nat} (hT : T n = some v) (hP : ro h (c + 25) 0 P) (bP : bd P) (hl : P.length ≤ 820) (hs : ∀ i, i < w.length → lf w i = lf P (fr + i)) (hfw : fr + w.length ≤ P.length) (hn : w.length ≤ 14)
    (hC : ∀ h', chI (SQ c) h h' → FA c h' L T here K pr (asN L T here K pr v w P s) cp bad → C none h') :
    callG (wp G) d 16 0 0 7 [.inr (.inl (some (c + 19))), .inr (.inl (some a)), .inl (fr : Int), .inl ((fr + w.length : Nat) : Int), .inl (P.length : Int)] h C X :=
  f_ask hd H hv ⟨E.2.2.2.2, (E.1.2.2.2.1 n v hT).2.2.2.2.2.2.2.2.2.1.2⟩ E.2.1 E.2.2.1 E.2.2.2.1 hP bP hl rfl (ro_seg hP hs hfw) hn (by omega) hC
def VC (G : Nat → Nat) (c : Nat) (L : List Int) (T : aT) (here : Nat) (K : List aK) (pr bad : Int) (f : Nat) : Prop := ∀ (d n fr dep : Nat) (h : mH) (C : mQ) (X : mX) (w P : List Int) (u : aU), f + dep = 48 → 2 * f + 10 ≤ d → n < 48 → FA c h L T here K pr u.1 u.2 bad → 0 ≤ u.2 ∧ u.2 + (wt T n : Int) ≤ 1000 → ro h (c + 25) 0 P → bd P → 1 ≤ P.length → P.length ≤ 100 + 15 * dep → (∀ i, i < w.length → lf w i = lf P (fr + i)) → fr + w.length ≤ P.length → w.length ≤ 14 →
    (∀ h', chI (SA c) h h' → FA c h' L T here K pr (vis L T here K pr f n w P u).1 (vis L T here K pr f n w P u).2 bad → ro h' (c + 25) 0 P → C none h') →
    callG (wp G) d 14 0 0 8 [.inr (.inl (some (c + 19))), .inl (n : Int), .inl (fr : Int), .inl ((fr + w.length : Nat) : Int), .inl (P.length : Int), .inl (dep : Int)] h C X
theorem ro_pre {h : mH} {a : Nat} {P Q : List Int} (H : ro h a 0 (P ++ Q)) : ro h a 0 P := fun i hi => by rw [H i (by simp; omega), lf_app_l hi]
theorem below_loop {G : Nat → Nat} {d c here a f dep : Nat} {h0 : mH} {C : mQ} {X : mX} {L : List Int} {T : aT} {K : List aK} {pr bad : Int} {v : aN} {Q : List Int} {x2 : Option mV} (E : EV L T here K pr) (hV : VC G c L T here K pr bad f) (hf : f + (dep + 1) = 48) (hd : 2 * f + 10 ≤ d) (CF0 : CF c h0) (hv : ND h0 a v) {n : Nat} (hT : T n = some v) (hk : nK v = 0) (bQ : bd Q) (hQ1 : 1 ≤ Q.length) (hQ : Q.length ≤ 100 + 15 * dep + 1) :
    ∀ (m i : Nat) (h : mH) (u : aU) (x6 x7 : Option mV), (nE v).length ≤ i + m → i ≤ (nE v).length → chI (SA c) h0 h → FA c h L T here K pr u.1 u.2 bad → 0 ≤ u.2 ∧ u.2 + (wtE T ((nE v).drop i) : Int) ≤ 1000 → ro h (c + 25) 0 Q →
    (∀ h', chI (SA c) h0 h' → FA c h' L T here K pr (fld (fun n w P u => vis L T here K pr f n w P u) Q ((nE v).drop i) u).1 (fld (fun n w P u => vis L T here K pr f n w P u) Q ((nE v).drop i) u).2 bad → ro h' (c + 25) 0 Q → C none h') →
    wp G d 15 100074 [some (.inr (.inl (some (c + 19)))), some (.inr (.inl (some a))), x2, some (.inl (dep : Int)), some (.inl (Q.length : Int)), some (.inl (i : Int)), x6, x7] [] h 0 0 C X := by
  have hd0 : (0 < d) = True := eq_true (by omega)
  have hE12 : (nE v).length ≤ 12 := (E.1.2.2.2.1 n v hT).2.2.2.2.2.1
  have hmx : nMx v = 12 := by unfold nMx; rw [if_pos hk]
  intro m
  induction m with
  | zero =>
    intro i h u x6 x7 hm hi q0 HF hu hQr hC
    have hii : i = (nE v).length := by omega
    subst hii
    have hv1 : ND h a v := ND_ch (ch_ofI q0) (fun x hx => SF_frn CF0 x (SA_SF hx)) hv
    have hz := hC h q0 (by simp [fld]; exact HF) hQr
    have v1 := hv1.1
    have v5 := hv1.2.2.2.2.2.2.1
    rw [wp_hd]
    (repeat' (first | with_reducible assumption | (refine And.intro ?_ ?_) | (with_reducible intro _) | (simp [wp_eq, wpE, mk_X2_visitBelow, mg, mc_X2_visitBelow, lget, lset, popN, cats, rcv, entL, isArr, kC_s, kC_n, st1, st2, st3, st4, st5, st6, st7, st8, st9, st10, st11, st12, st13, st14, st15, st16, st17, st18, st19, st20, st21, st22, st23, st24, st25, st26, st27, st28, st29, st30, st31, st32, st33, st34, st35, st36, st37, st38, st39, st40, st41, st42, st43, st44, st45, st46, st47, st48, st49, st50, st51, st52, st53, st54, st55, st56, st57, st58, st59, st60, st61, st62, st63, st64, st65, st66, st67, st68, st69, st70, st71, st72, st73, st74, st75, st76, st77, st78, st79, st80, st81, st82, st83, st84, st85, st86, st87, st88, st89, st90, st91, v1, v5]))) <;> (try (first | omega | exact hz))
  | succ m ih =>
    intro i h u x6 x7 hm hi q0 HF hu hQr hC
    have hv1 : ND h a v := ND_ch (ch_ofI q0) (fun x hx => SF_frn CF0 x (SA_SF hx)) hv
    have v1 := hv1.1
    have v4 := hv1.2.2.2.2.2.1
    have v5 := hv1.2.2.2.2.2.2.1
    have v13 := hv1.2.2.2.2.2.2.2.2.2.2.2.2.2.1
    rw [hmx] at v13
    have CFh := CF_chI q0 CF0
    have x1 : hty h (c + 19) = some (2, 14) := CFh.1 (19, 2, 14) (by decide)
    have y4 : hvr h (c + 19) 5 = some (c + 25) := CFh.2 (19, 5, 25) (by decide)
    have y5 : hty h (c + 25) = some (21, 820) := CFh.1 (25, 21, 820) (by decide)
    have k10 := HF.2.2.2.1.2.2.2
    rw [wp_hd]
    by_cases hil : i < (nE v).length
    · obtain ⟨p, hp⟩ : ∃ p, (nE v)[i]? = some p := ⟨(nE v)[i], List.getElem?_eq_getElem hil⟩
      have hdr : (nE v).drop i = p :: (nE v).drop (i + 1) := by
        rw [List.drop_eq_getElem_cons hil]
        congr 1
        rw [List.getElem?_eq_getElem hil] at hp
        injection hp
      rw [hdr] at hC hu
      simp only [fld] at hC
      have hwE : wtE T (p :: (nE v).drop (i + 1)) = wt T p.2 + wtE T ((nE v).drop (i + 1)) := by simp [wtE]
      rw [hwE] at hu
      cases hfu : u.1.2.2.2 with
      | true =>
        rw [hfu, if_pos rfl] at hC
        rw [hfu] at k10
        simp [b01] at k10
        have hz := hC h q0 HF hQr
        (repeat' (first | with_reducible assumption | (refine And.intro ?_ ?_) | (with_reducible intro _) | (simp [wp_eq, wpE, mk_X2_visitBelow, mg, mc_X2_visitBelow, lget, lset, popN, cats, rcv, entL, isArr, kC_s, kC_n, st1, st2, st3, st4, st5, st6, st7, st8, st9, st10, st11, st12, st13, st14, st15, st16, st17, st18, st19, st20, st21, st22, st23, st24, st25, st26, st27, st28, st29, st30, st31, st32, st33, st34, st35, st36, st37, st38, st39, st40, st41, st42, st43, st44, st45, st46, st47, st48, st49, st50, st51, st52, st53, st54, st55, st56, st57, st58, st59, st60, st61, st62, st63, st64, st65, st66, st67, st68, st69, st70, st71, st72, st73, st74, st75, st76, st77, st78, st79, st80, st81, st82, st83, st84, st85, st86, st87, st88, st89, st90, st91, v1, v4, v5, v13, x1, k10, show (i : Int) < ((nE v).length : Int) by omega, show ¬ ((nE v).length : Int) ≤ (i : Int) by omega, show ¬ (12 : Int) ≤ (i : Int) by omega, show (i : Int) < 12 by omega]))) <;> (try (first | omega | exact hz))
      | false =>
        rw [hfu, if_neg (by simp)] at hC
        rw [hfu] at k10
        simp [b01] at k10
        obtain ⟨e, he, hEN⟩ := hv1.2.2.2.2.2.2.2.2.2.2.2.2.2.2.2 i p hp
        obtain ⟨e1, e2, e3, e4, e5, b, e6, e7, e8⟩ := hEN
        have hbc : ¬ b = c + 25 := fun q => by rw [q, y5] at e7; injection e7 with e7; injection e7 with _ e7; omega
        have hq1 : chI (SA c) h (hcpy h b 0 (c + 25) Q.length p.1.length) := chI_cpy (by unfold SA; omega)
        have hr1 : ro (hcpy h b 0 (c + 25) Q.length p.1.length) (c + 25) 0 (Q ++ p.1) := fun j hj => by
          simp at hj
          rw [hvi_C]
          by_cases hjq : j < Q.length
          · rw [if_neg (by omega), lf_app_l hjq]; exact hQr j hjq
          · rw [if_pos (by omega), lf_app_r (by omega)]
            have := e8 (j - Q.length) (by omega)
            rw [show 0 + (0 + j - Q.length) = 0 + (j - Q.length) by omega, this]
        have hcy : ∀ x j, ¬ x = c + 25 → hvi (hcpy h b 0 (c + 25) Q.length p.1.length) x j = hvi h x j := fun x j hx => by rw [hvi_C, if_neg (fun q => hx q.1)]
        have HH := HF
        obtain ⟨f1, f2, f3, ⟨k6, k7, k9, k10'⟩, f5⟩ := HH
        have HF1 : FA c (hcpy h b 0 (c + 25) Q.length p.1.length) L T here K pr u.1 u.2 bad := FA_ch HF hq1 (PG_chI (S := fun x => x = c + 25) (chI_cpy rfl) (by omega) (by omega) f1.2.2.2.2.2.1) (by rw [hcy _ _ (by omega)]; exact k6) (by rw [hcy _ _ (by omega)]; exact k7) (by rw [hcy _ _ (by omega)]; exact f1.2.2.2.2.2.2.1) (by rw [hcy _ _ (by omega)]; exact k9) (by rw [hcy _ _ (by omega)]; exact k10') f5
        have hcv : ∀ {C : mQ} {X : mX}, (∀ h', chI (SA c) (hcpy h b 0 (c + 25) Q.length p.1.length) h' → FA c h' L T here K pr (vis L T here K pr f p.2 p.1 (Q ++ p.1) u).1 (vis L T here K pr f p.2 p.1 (Q ++ p.1) u).2 bad → ro h' (c + 25) 0 (Q ++ p.1) → C none h') → callG (wp G) d 14 0 0 8 [.inr (.inl (some (c + 19))), .inl (p.2 : Int), .inl (Q.length : Int), .inl ((Q.length : Int) + (p.1.length : Int)), .inl ((Q.length : Int) + (p.1.length : Int)), .inl ((dep : Int) + 1)] (hcpy h b 0 (c + 25) Q.length p.1.length) C X := by
          intro C X z
          have := hV d p.2 Q.length (dep + 1) (hcpy h b 0 (c + 25) Q.length p.1.length) C X p.1 (Q ++ p.1) u hf hd e4 HF1 (by omega) hr1 (bd_app bQ e2) (by simp; omega) (by simp; omega) (fun i hi => by rw [lf_app_r (by omega)]; congr 1; omega) (by simp) e3 z
          rw [show ((Q ++ p.1).length : Int) = (Q.length : Int) + (p.1.length : Int) by simp, show ((Q.length + p.1.length : Nat) : Int) = (Q.length : Int) + (p.1.length : Int) by omega, show ((dep + 1 : Nat) : Int) = (dep : Int) + 1 by omega] at this
          exact this
        have w1 : hty (hcpy h b 0 (c + 25) Q.length p.1.length) e = some (0, 2) := e1
        have w5 : hvi (hcpy h b 0 (c + 25) Q.length p.1.length) e 1 = (p.2 : Int) := by rw [hcy _ _ (fun q => by rw [q, y5] at e1; injection e1 with e1; injection e1 with e1 _; omega)]; exact e5
        have w2 : hty (hcpy h b 0 (c + 25) Q.length p.1.length) (c + 19) = some (2, 14) := x1
        generalize hh1 : hcpy h b 0 (c + 25) Q.length p.1.length = h1 at *
        have hroom : (Q.length : Int) + (p.1.length : Int) ≤ 820 := by omega
        simp [wp_eq, wpE, mk_X2_visitBelow, mg, mc_X2_visitBelow, lget, lset, popN, cats, rcv, entL, isArr, kC_s, kC_n, st1, st2, st3, st4, st5, st6, st7, st8, st9, st10, st11, st12, st13, st14, st15, st16, st17, st18, st19, st20, st21, st22, st23, st24, st25, st26, st27, st28, st29, st30, st31, st32, st33, st34, st35, st36, st37, st38, st39, st40, st41, st42, st43, st44, st45, st46, st47, st48, st49, st50, st51, st52, st53, st54, st55, st56, st57, st58, st59, st60, st61, st62, st63, st64, st65, st66, st67, st68, st69, st70, st71, st72, st73, st74, st75, st76, st77, st78, st79, st80, st81, st82, st83, st84, st85, st86, st87, st88, st89, st90, st91, hh1, v1, v4, v5, v13, x1, k10, y4, y5, he, e1, e6, e7, w1, w5, w2, hd0, hroom, inR, show (i : Int) < ((nE v).length : Int) by omega, show ¬ ((nE v).length : Int) ≤ (i : Int) by omega, show ¬ (12 : Int) ≤ (i : Int) by omega, show (i : Int) < 12 by omega, show ¬ 820 < (Q.length : Int) + (p.1.length : Int) by omega]
        refine ⟨by omega, by omega, hcv (fun zzh zz1 zz2 zz3 => ?_)⟩
        have zz4 := vis_cp (L := L) (K := K) (pr := pr) E.1 f p.2 p.1 (Q ++ p.1) u
        have hz := fun x6 x7 => ih (i + 1) zzh (vis L T here K pr f p.2 p.1 (Q ++ p.1) u) x6 x7 (by omega) (by omega) (chI_trans q0 (chI_trans hq1 zz1)) zz2 (by omega) (ro_pre zz3) hC
        (repeat' (first | with_reducible assumption | (refine And.intro ?_ ?_) | (with_reducible intro _) | (simp [wp_eq, wpE, mk_X2_visitBelow, mg, mc_X2_visitBelow, lget, lset, popN, cats, rcv, entL, isArr, kC_s, kC_n, st1, st2, st3, st4, st5, st6, st7, st8, st9, st10, st11, st12, st13, st14, st15, st16, st17, st18, st19, st20, st21, st22, st23, st24, st25, st26, st27, st28, st29, st30, st31, st32, st33, st34, st35, st36, st37, st38, st39, st40, st41, st42, st43, st44, st45, st46, st47, st48, st49, st50, st51, st52, st53, st54, st55, st56, st57, st58, st59, st60, st61, st62, st63, st64, st65, st66, st67, st68, st69, st70, st71, st72, st73, st74, st75, st76, st77, st78, st79, st80, st81, st82, st83, st84, st85, st86, st87, st88, st89, st90, st91, inR]))) <;> (try (first | omega | exact hz))
        all_goals first | omega | exact hz _ _
    · have hii : i = (nE v).length := by omega
      subst hii
      have hz := hC h q0 (by simp [fld]; exact HF) hQr
      (repeat' (first | with_reducible assumption | (refine And.intro ?_ ?_) | (with_reducible intro _) | (simp [wp_eq, wpE, mk_X2_visitBelow, mg, mc_X2_visitBelow, lget, lset, popN, cats, rcv, entL, isArr, kC_s, kC_n, st1, st2, st3, st4, st5, st6, st7, st8, st9, st10, st11, st12, st13, st14, st15, st16, st17, st18, st19, st20, st21, st22, st23, st24, st25, st26, st27, st28, st29, st30, st31, st32, st33, st34, st35, st36, st37, st38, st39, st40, st41, st42, st43, st44, st45, st46, st47, st48, st49, st50, st51, st52, st53, st54, st55, st56, st57, st58, st59, st60, st61, st62, st63, st64, st65, st66, st67, st68, st69, st70, st71, st72, st73, st74, st75, st76, st77, st78, st79, st80, st81, st82, st83, st84, st85, st86, st87, st88, st89, st90, st91, v1, v5]))) <;> (try (first | omega | exact hz))
theorem f_below {G : Nat → Nat} {d c here a f dep : Nat} {h : mH} {C : mQ} {X : mX} {L : List Int} {T : aT} {K : List aK} {pr bad : Int} {v : aN} {P : List Int} {u : aU} (E : EV L T here K pr) (hV : VC G c L T here K pr bad f) (hf : f + (dep + 1) = 48) (hd : 2 * f + 11 ≤ d) (hv : ND h a v) {n : Nat} (hT : T n = some v) (hk : nK v = 0) (HF : FA c h L T here K pr u.1 u.2 bad) (hu : 0 ≤ u.2 ∧ u.2 + (wt T n : Int) ≤ 1000) (hP : ro h (c + 25) 0 P) (bP : bd P) (hP1 : 1 ≤ P.length) (hPl : P.length ≤ 100 + 15 * dep)
    (hC : ∀ h', chI (SA c) h h' → FA c h' L T here K pr (bel (fun n w P u => vis L T here K pr f n w P u) v P u).1 (bel (fun n w P u => vis L T here K pr f n w P u) v P u).2 bad → ro h' (c + 25) 0 P → C none h') :
    callG (wp G) d 15 0 0 8 [.inr (.inl (some (c + 19))), .inr (.inl (some a)), .inl (P.length : Int), .inl (dep : Int)] h C X := by
  have CFh := HF.1.1
  have x1 : hty h (c + 19) = some (2, 14) := CFh.1 (19, 2, 14) (by decide)
  have y4 : hvr h (c + 19) 5 = some (c + 25) := CFh.2 (19, 5, 25) (by decide)
  have y5 : hty h (c + 25) = some (21, 820) := CFh.1 (25, 21, 820) (by decide)
  have v1 := hv.1
  have v6 := hv.2.2.2.2.2.2.2.1
  have hwb := wt_bel E.1 hT hk
  have HH := HF
  obtain ⟨f1, f2, f3, ⟨k6, k7, k9, k10⟩, f5⟩ := HH
  have k8 := f1.2.2.2.2.2.2.1
  unfold bel at hC
  refine cg (2 * f + 10) (by omega) (fun d hd => ?_)
  have hd0 : (0 < d) = True := eq_true (by omega)
  by_cases hn : nrt v
  · rw [if_pos hn] at hC
    have q1 : chI (SA c) h (hsetI h (c + 19) 8 (u.2 + 1)) := chI_set (by unfold SA; omega)
    have hz := hC _ q1 (FA_ch HF q1 (PG_set (by omega) (by omega) f1.2.2.2.2.2.1) (by rw [hvi_I, if_neg (by omega)]; exact k6) (by rw [hvi_I, if_neg (by omega)]; exact k7) (by rw [hvi_I, if_pos (by omega)]) (by rw [hvi_I, if_neg (by omega)]; exact k9) (by rw [hvi_I, if_neg (by omega)]; exact k10) f5) (fun j hj => by rw [hvi_I, if_neg (by omega)]; exact hP j hj)
    by_cases h4 : bAnd (nB v) 4 = 0
    · (repeat' (first | with_reducible assumption | (refine And.intro ?_ ?_) | (with_reducible intro _) | (simp [wp_eq, wpE, mk_X2_visitBelow, mg, mc_X2_visitBelow, lget, lset, popN, cats, rcv, entL, isArr, kC_s, kC_n, st1, st2, st3, st4, st5, st6, st7, st8, st9, st10, st11, st12, st13, st14, st15, st16, st17, st18, st19, st20, st21, st22, st23, st24, st25, st26, st27, st28, st29, st30, st31, st32, st33, st34, st35, st36, st37, st38, st39, st40, st41, st42, st43, st44, st45, st46, st47, st48, st49, st50, st51, st52, st53, st54, st55, st56, st57, st58, st59, st60, st61, st62, st63, st64, st65, st66, st67, st68, st69, st70, st71, st72, st73, st74, st75, st76, st77, st78, st79, st80, st81, st82, st83, st84, st85, st86, st87, st88, st89, st90, st91, v1, v6, h4, x1, k8, inR]))) <;> (try (first | omega | exact hz))
    · have h1 : bAnd (nB v) 1 = 0 := hn.resolve_left h4
      (repeat' (first | with_reducible assumption | (refine And.intro ?_ ?_) | (with_reducible intro _) | (simp [wp_eq, wpE, mk_X2_visitBelow, mg, mc_X2_visitBelow, lget, lset, popN, cats, rcv, entL, isArr, kC_s, kC_n, st1, st2, st3, st4, st5, st6, st7, st8, st9, st10, st11, st12, st13, st14, st15, st16, st17, st18, st19, st20, st21, st22, st23, st24, st25, st26, st27, st28, st29, st30, st31, st32, st33, st34, st35, st36, st37, st38, st39, st40, st41, st42, st43, st44, st45, st46, st47, st48, st49, st50, st51, st52, st53, st54, st55, st56, st57, st58, st59, st60, st61, st62, st63, st64, st65, st66, st67, st68, st69, st70, st71, st72, st73, st74, st75, st76, st77, st78, st79, st80, st81, st82, st83, st84, st85, st86, st87, st88, st89, st90, st91, v1, v6, h4, h1, x1, k8, inR]))) <;> (try (first | omega | exact hz))
  · rw [if_neg hn] at hC
    have h4 : ¬ bAnd (nB v) 4 = 0 := fun q => hn (Or.inl q)
    have h1 : ¬ bAnd (nB v) 1 = 0 := fun q => hn (Or.inr q)
    have e1 : ((P.length : Int) - 1).toNat = P.length - 1 := by omega
    have cl : hvi h (c + 25) (P.length - 1) = lf P (P.length - 1) := by have := hP (P.length - 1) (by omega); simpa using this
    by_cases h47 : lf P (P.length - 1) = 47
    · have hs : sl P = P := by unfold sl; rw [if_pos h47]
      rw [hs] at hC
      have hz := fun x2 x6 x7 => below_loop (G := G) (d := d) (C := C) (X := fun _ _ => False) (x2 := x2) E hV hf (by omega) CFh hv hT hk bP hP1 (by omega) (nE v).length 0 h u x6 x7 (by omega) (by omega) chI_refl HF (by rw [List.drop_zero]; omega) hP (fun h' q1 q2 q3 => by rw [List.drop_zero] at q2; exact hC h' q1 q2 q3)
      (repeat' (first | with_reducible assumption | (refine And.intro ?_ ?_) | (with_reducible intro _) | (simp [wp_eq, wpE, mk_X2_visitBelow, mg, mc_X2_visitBelow, lget, lset, popN, cats, rcv, entL, isArr, kC_s, kC_n, st1, st2, st3, st4, st5, st6, st7, st8, st9, st10, st11, st12, st13, st14, st15, st16, st17, st18, st19, st20, st21, st22, st23, st24, st25, st26, st27, st28, st29, st30, st31, st32, st33, st34, st35, st36, st37, st38, st39, st40, st41, st42, st43, st44, st45, st46, st47, st48, st49, st50, st51, st52, st53, st54, st55, st56, st57, st58, st59, st60, st61, st62, st63, st64, st65, st66, st67, st68, st69, st70, st71, st72, st73, st74, st75, st76, st77, st78, st79, st80, st81, st82, st83, st84, st85, st86, st87, st88, st89, st90, st91, v1, v6, h4, h1, x1, y4, y5, e1, cl, h47, inR, show ¬ (P.length : Int) < 1 by omega, show (P.length : Int) < 820 by omega]))) <;> (try (first | omega | exact hz))
      all_goals first | omega | exact hz _ _ _
    · have hs : sl P = P ++ [47] := by unfold sl; rw [if_neg h47]
      rw [hs] at hC
      have q1 : chI (SA c) h (hsetI h (c + 25) P.length 47) := chI_set (by unfold SA; omega)
      have HF1 : FA c (hsetI h (c + 25) P.length 47) L T here K pr u.1 u.2 bad := FA_ch HF q1 (PG_set (by omega) (by omega) f1.2.2.2.2.2.1) (by rw [hvi_I, if_neg (by omega)]; exact k6) (by rw [hvi_I, if_neg (by omega)]; exact k7) (by rw [hvi_I, if_neg (by omega)]; exact k8) (by rw [hvi_I, if_neg (by omega)]; exact k9) (by rw [hvi_I, if_neg (by omega)]; exact k10) f5
      have hr1 : ro (hsetI h (c + 25) P.length 47) (c + 25) 0 (P ++ [47]) := fun j hj => by
        simp at hj
        rw [hvi_I]
        by_cases hjp : j < P.length
        · rw [if_neg (by omega), lf_app_l hjp]; exact hP j hjp
        · rw [if_pos (by omega), lf_app_r (by omega), show j - P.length = 0 by omega]; rfl
      have hz := fun x2 x6 x7 => below_loop (G := G) (d := d) (C := C) (X := fun _ _ => False) (x2 := x2) E hV hf (by omega) CFh hv hT hk (bd_app bP (fun x hx => by simp at hx; omega)) (by simp) (by simp; omega) (nE v).length 0 (hsetI h (c + 25) P.length 47) u x6 x7 (by omega) (by omega) q1 HF1 (by rw [List.drop_zero]; omega) hr1 (fun h' q1 q2 q3 => by rw [List.drop_zero] at q2; exact hC h' q1 q2 (ro_pre q3))
      rw [show ((P ++ [47] : List Int).length : Int) = (P.length : Int) + 1 by simp] at hz
      generalize hh1 : hsetI h (c + 25) P.length 47 = zg at *
      (repeat' (first | with_reducible assumption | (refine And.intro ?_ ?_) | (with_reducible intro _) | (simp [wp_eq, wpE, mk_X2_visitBelow, mg, mc_X2_visitBelow, lget, lset, popN, cats, rcv, entL, isArr, kC_s, kC_n, st1, st2, st3, st4, st5, st6, st7, st8, st9, st10, st11, st12, st13, st14, st15, st16, st17, st18, st19, st20, st21, st22, st23, st24, st25, st26, st27, st28, st29, st30, st31, st32, st33, st34, st35, st36, st37, st38, st39, st40, st41, st42, st43, st44, st45, st46, st47, st48, st49, st50, st51, st52, st53, st54, st55, st56, st57, st58, st59, st60, st61, st62, st63, st64, st65, st66, st67, st68, st69, st70, st71, st72, st73, st74, st75, st76, st77, st78, st79, st80, st81, st82, st83, st84, st85, st86, st87, st88, st89, st90, st91, hh1, v1, v6, h4, h1, x1, y4, y5, e1, cl, h47, inR, show ¬ (P.length : Int) < 1 by omega, show (P.length : Int) < 820 by omega]))) <;> (try (first | omega | exact hz))
      all_goals first | omega | exact hz _ _ _
