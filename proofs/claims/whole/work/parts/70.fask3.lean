def SQ (c a : Nat) : Prop := a = c + 12 ∨ a = c + 13 ∨ (c + 19 ≤ a ∧ a ≤ c + 24) ∨ a = c + 26
theorem SQ_SA {c a : Nat} (h : SQ c a) : SA c a := by unfold SQ at h; unfold SA; omega
theorem SI_SQ {c a : Nat} (h : SI c a) : SQ c a := by unfold SI at h; unfold SQ; omega
theorem S5_SQ {c a : Nat} (h : S5 (c + 20) a) : SQ c a := by unfold S5 at h; unfold SQ; omega
theorem ch_cI {S : Nat → Prop} {h h' : mH} (q : chI S h h') : ch S h h' := ⟨q.1, q.2.1, q.2.2.2.1, fun a n j => ⟨q.2.2.1 a j, q.2.2.2.2 a j n⟩⟩
theorem FA_tr {c : Nat} {h h' : mH} {L : List Int} {T : aT} {here : Nat} {K : List aK} {pr : Int} {s : aS} {cp bad : Int} (H : FA c h L T here K pr s cp bad) (q : chI (S5 (c + 20)) h h') : FA c h' L T here K pr s cp bad ∧ ∀ j, hvi h' (c + 19) j = hvi h (c + 19) j := by
  have HH := H
  obtain ⟨f1, f2, f3, ⟨k6, k7, k9, k10⟩, f5⟩ := HH
  have nn : ∀ j, hvi h' (c + 19) j = hvi h (c + 19) j := fun j => q.2.2.2.2 _ _ (by unfold S5; omega)
  exact ⟨FA_ch H (chI_mono (fun a z => SQ_SA (S5_SQ z)) q) (PG_chI q (by unfold S5; omega) (by unfold S5; omega) f1.2.2.2.2.2.1) (by rw [nn]; exact k6) (by rw [nn]; exact k7) (by rw [nn]; exact f1.2.2.2.2.2.2.1) (by rw [nn]; exact k9) (by rw [nn]; exact k10) f5, nn⟩
theorem TH_I {c : Nat} {h h' : mH} {S : List aL} {v : aL} (H : TH (c + 20) h S v) (q : chI (SI c) h h') : TH (c + 20) h' S v := by
  have nn : ∀ a, c + 20 ≤ a → a ≤ c + 24 → ∀ j, hvi h' a j = hvi h a j := fun a h1 h2 j => q.2.2.2.2 _ _ (by unfold SI; omega)
  have lv : ∀ i s, LV (c + 20) h i s → LV (c + 20) h' i s := fun i s ⟨l1, l2, l3, l4⟩ => ⟨by rw [nn _ (by omega) (by omega)]; exact l1, by rw [nn _ (by omega) (by omega)]; exact l2, by rw [nn _ (by omega) (by omega)]; exact l3, by rw [nn _ (by omega) (by omega)]; exact l4⟩
  obtain ⟨g0, g1, g2, g3, g4⟩ := H
  exact ⟨TY_chI q g0, by rw [nn _ (by omega) (by omega)]; exact g1, g2, lv _ _ g3, fun i s hi => lv _ _ (g4 i s hi)⟩
theorem NF_eq {c fr n e : Nat} {h h' : mH} (q : ∀ j, 11 ≤ j → hvi h' (c + 19) j = hvi h (c + 19) j) (H : NF c h fr n e) : NF c h' fr n e := ⟨by rw [q 11 (by omega)]; exact H.1, by rw [q 12 (by omega)]; exact H.2.1, by rw [q 13 (by omega)]; exact H.2.2⟩
theorem t_leave0 {G : Nat → Nat} {d u : Nat} {h : mH} {C : mQ} {X : mX} {v : aL} (hd : 2 ≤ d) (H : TH u h [] v) (hC : C none h) : callG (wp G) d 62 0 0 2 [.inr (.inl (some u))] h C X := by
  have HH := H
  obtain ⟨HY, g1, g2, g3, g4⟩ := HH
  have e1 := HY.1
  have g1 : hvi h u 4 = 0 := g1
  have civ : ∀ {d : Nat} {C : mQ} {X : mX}, C (some (.inl (b01 (lva v)))) h → callG (wp G) d 57 0 0 1 [.inr (.inl (some u))] h C X := fun {d C X} q => t_value H q
  have hz := hC
  refine cg 1 (by omega) (fun d hd => ?_)
  have hd0 : (0 < d) = True := eq_true (by omega)
  (repeat' (first | with_reducible assumption | (refine civ ?_) | (refine And.intro ?_ ?_) | (with_reducible intro _) | (simp [wp_eq, wpE, mk_X8_leave, mg, mc_X8_leave, lget, lset, popN, cats, rcv, entL, isArr, kC_s, kC_n, st1, st2, st3, st4, st5, st6, st7, st8, st9, st10, st11, st12, st13, st14, st15, st16, st17, st18, st19, st20, st21, st22, st23, st24, st25, st26, st27, st28, st29, st30, st31, st32, st33, st34, st35, st36, st37, st38, st39, st40, st41, st42, st43, st44, st45, st46, st47, st48, st49, st50, st51, st52, st53, st54, st55, st56, st57, st58, st59, st60, st61, st62, st63, st64, st65, st66, st67, st68, st69, st70, st71, st72, st73, st74, st75, st76, st77, st78, st79, st80, st81, st82, st83, st84, st85, st86, st87, st88, st89, st90, st91, e1, g1, hd0, inR, hty_I, hvi_I, hvr_I, hvl_I, hsz_I, hty_R, hvi_R, hvr_R, hvl_R, hsz_R, hty_L, hvi_L, hvr_L, hvl_L, hsz_L, hty_P, hvi_P, hvr_P, hvl_P, hsz_P, hty_C, hvi_C, hvr_C, hvl_C, hsz_C]))) <;> (try (first | omega | exact hz))
theorem ask_loop {G : Nat → Nat} {d c here a fr n : Nat} {h0 : mH} {C : mQ} {X : mX} {L : List Int} {T : aT} {K : List aK} {pr : Int} {cp bad : Int} {v : aN} {w P : List Int} {x2 x3 x4 : Option mV} (hd : 5 ≤ d) (H0 : CF c h0) (hv : ND h0 a v) (hb : (0 ≤ pr ∧ pr ≤ 999999) ∧ 0 ≤ nD v ∧ nD v ≤ 999999) (hK : ∀ t ∈ K, 1 ≤ t.1 ∧ t.1 ≤ 14) (hP : ro h0 (c + 25) 0 P) (bP : bd P) (hl : P.length ≤ 820) (hw : w.length = n) (hr : ro h0 (c + 25) fr w) (hn : n ≤ 14) (hfn : fr + n ≤ 820) :
    ∀ (m i : Nat) (h : mH) (S : List aL) (va : aL) (s : aS) (x6 : Option mV), K.length ≤ i + m → i ≤ K.length → S.length ≤ i → chI (SQ c) h0 h → FA c h L T here K pr s cp bad → TH (c + 20) h S.reverse va → NF c h fr n P.length →
    (∀ h' i' x6, chI (SQ c) h0 h' → FA c h' L T here K pr ((K.drop i).foldl (mst (tsF L T here pr v w P)) (S, va, s)).2.2 cp bad → TH (c + 20) h' ((K.drop i).foldl (mst (tsF L T here pr v w P)) (S, va, s)).1.reverse ((K.drop i).foldl (mst (tsF L T here pr v w P)) (S, va, s)).2.1 → NF c h' fr n P.length → wp G d 16 165 [some (.inr (.inl (some (c + 19)))), some (.inr (.inl (some a))), x2, x3, x4, i', x6] [] h' 0 0 C X) →
    wp G d 16 100026 [some (.inr (.inl (some (c + 19)))), some (.inr (.inl (some a))), x2, x3, x4, some (.inl (i : Int)), x6] [] h 0 0 C X := by
  have hd0 : (0 < d) = True := eq_true (by omega)
  intro m
  induction m with
  | zero =>
    intro i h S va s x6 hm hi hS q0 HF HT HN hC
    have hii : i = K.length := by omega
    subst hii
    have CFh := CF_chI q0 H0
    have x1 : hty h (c + 19) = some (2, 14) := CFh.1 (19, 2, 14) (by decide)
    have x2' : hvr h (c + 19) 1 = some (c + 14) := CFh.2 (19, 1, 14) (by decide)
    have x3' : hty h (c + 14) = some (1, 8) := CFh.1 (14, 1, 8) (by decide)
    have x5 : hvi h (c + 14) 5 = (K.length : Int) := HF.2.1.2.1
    rw [wp_hd]
    have hz := hC h (some (.inl (K.length : Int))) x6 q0 (by simp; exact HF) (by simp; exact HT) HN
    (repeat' (first | with_reducible assumption | (refine And.intro ?_ ?_) | (with_reducible intro _) | (simp [wp_ne 165, wpE, mk_X2_ask, mg, mc_X2_ask, lget, lset, popN, cats, rcv, entL, isArr, kC_s, kC_n, st1, st2, st3, st4, st5, st6, st7, st8, st9, st10, st11, st12, st13, st14, st15, st16, st17, st18, st19, st20, st21, st22, st23, st24, st25, st26, st27, st28, st29, st30, st31, st32, st33, st34, st35, st36, st37, st38, st39, st40, st41, st42, st43, st44, st45, st46, st47, st48, st49, st50, st51, st52, st53, st54, st55, st56, st57, st58, st59, st60, st61, st62, st63, st64, st65, st66, st67, st68, st69, st70, st71, st72, st73, st74, st75, st76, st77, st78, st79, st80, st81, st82, st83, st84, st85, st86, st87, st88, st89, st90, st91, x1, x2', x3', x5]))) <;> (try (first | omega | exact hz))
  | succ m ih =>
    intro i h S va s x6 hm hi hS q0 HF HT HN hC
    have CFh := CF_chI q0 H0
    have x1 : hty h (c + 19) = some (2, 14) := CFh.1 (19, 2, 14) (by decide)
    have x2' : hvr h (c + 19) 1 = some (c + 14) := CFh.2 (19, 1, 14) (by decide)
    have x3' : hty h (c + 14) = some (1, 8) := CFh.1 (14, 1, 8) (by decide)
    have x4' : hvr h (c + 14) 1 = some (c + 15) := CFh.2 (14, 1, 15) (by decide)
    have x7 : hty h (c + 15) = some (20, 50) := CFh.1 (15, 20, 50) (by decide)
    have x8 : hvr h (c + 19) 4 = some (c + 20) := CFh.2 (19, 4, 20) (by decide)
    have x9 : hty h (c + 20) = some (8, 5) := CFh.1 (20, 8, 5) (by decide)
    have x5 : hvi h (c + 14) 5 = (K.length : Int) := HF.2.1.2.1
    have hK50 := HF.2.1.1
    rw [wp_hd]
    by_cases hil : i < K.length
    · obtain ⟨t, ht⟩ : ∃ t, K[i]? = some t := ⟨K[i], List.getElem?_eq_getElem hil⟩
      have hdr : K.drop i = t :: K.drop (i + 1) := by
        rw [List.drop_eq_getElem_cons hil]
        congr 1
        rw [List.getElem?_eq_getElem hil] at ht
        injection ht
      rw [hdr] at hC
      simp only [List.foldl] at hC
      have htm : t ∈ K := List.mem_of_getElem? ht
      have hk := hK t htm
      have n1 : hvi h (c + 15) i = (t.1 : Int) := (HF.2.1.2.2.2.2 i t ht).1
      have hi50 : i < 50 := by omega
      have hcont : ∀ (h2 : mH) (S2 : List aL) (v2 : aL) (s2 : aS) (x6 : Option mV), chI (SQ c) h h2 → FA c h2 L T here K pr s2 cp bad → TH (c + 20) h2 S2.reverse v2 → NF c h2 fr n P.length → mst (tsF L T here pr v w P) (S, va, s) t = (S2, v2, s2) → S2.length ≤ i + 1 → wp G d 16 159 [some (.inr (.inl (some (c + 19)))), some (.inr (.inl (some a))), x2, x3, x4, some (.inl (i : Int)), x6] [] h2 0 0 C X := by
        intro h2 S2 v2 s2 x6 q2 HF2 HT2 HN2 hm2 hS2
        rw [hm2] at hC
        have hz := ih (i + 1) h2 S2 v2 s2 x6 (by omega) (by omega) (by omega) (chI_trans q0 q2) HF2 HT2 HN2 hC
        (repeat' (first | with_reducible assumption | (refine And.intro ?_ ?_) | (with_reducible intro _) | (simp [wp_eq, wpE, mk_X2_ask, mg, mc_X2_ask, lget, lset, popN, cats, rcv, entL, isArr, kC_s, kC_n, st1, st2, st3, st4, st5, st6, st7, st8, st9, st10, st11, st12, st13, st14, st15, st16, st17, st18, st19, st20, st21, st22, st23, st24, st25, st26, st27, st28, st29, st30, st31, st32, st33, st34, st35, st36, st37, st38, st39, st40, st41, st42, st43, st44, st45, st46, st47, st48, st49, st50, st51, st52, st53, st54, st55, st56, st57, st58, st59, st60, st61, st62, st63, st64, st65, st66, st67, st68, st69, st70, st71, st72, st73, st74, st75, st76, st77, st78, st79, st80, st81, st82, st83, st84, st85, st86, st87, st88, st89, st90, st91, inR]))) <;> (try (first | omega | exact hz))
      have c2 : ¬ K.length ≤ i := by omega
      by_cases k1 : t.1 = 1
      · have em : mst (tsF L T here pr v w P) (S, va, s) t = (S, ltn va, s) := by unfold mst; simp [k1]
        rw [k1] at n1
        simp [wp_ne 159, wpE, mk_X2_ask, mg, mc_X2_ask, lget, lset, popN, cats, rcv, entL, isArr, kC_s, kC_n, st1, st2, st3, st4, st5, st6, st7, st8, st9, st10, st11, st12, st13, st14, st15, st16, st17, st18, st19, st20, st21, st22, st23, st24, st25, st26, st27, st28, st29, st30, st31, st32, st33, st34, st35, st36, st37, st38, st39, st40, st41, st42, st43, st44, st45, st46, st47, st48, st49, st50, st51, st52, st53, st54, st55, st56, st57, st58, st59, st60, st61, st62, st63, st64, st65, st66, st67, st68, st69, st70, st71, st72, st73, st74, st75, st76, st77, st78, st79, st80, st81, st82, st83, st84, st85, st86, st87, st88, st89, st90, st91, x1, x2', x3', x4', x5, x7, x8, x9, n1, hil, hi50, hd0, c2, show ¬ (50 : Int) ≤ (i : Int) by omega, show (i : Int) < 50 by omega]
        refine t_turn HT (fun zzh zz1 zz2 => ?_)
        obtain ⟨zz3, zz4⟩ := FA_tr HF zz1
        simp [wp_ne 159, wpE, mk_X2_ask, mg, mc_X2_ask, lget, lset, popN, cats, rcv, entL, isArr, kC_s, kC_n, st1, st2, st3, st4, st5, st6, st7, st8, st9, st10, st11, st12, st13, st14, st15, st16, st17, st18, st19, st20, st21, st22, st23, st24, st25, st26, st27, st28, st29, st30, st31, st32, st33, st34, st35, st36, st37, st38, st39, st40, st41, st42, st43, st44, st45, st46, st47, st48, st49, st50, st51, st52, st53, st54, st55, st56, st57, st58, st59, st60, st61, st62, st63, st64, st65, st66, st67, st68, st69, st70, st71, st72, st73, st74, st75, st76, st77, st78, st79, st80, st81, st82, st83, st84, st85, st86, st87, st88, st89, st90, st91]
        exact hcont zzh S (ltn va) s _ (chI_mono (fun a => S5_SQ) zz1) zz3 zz2 (NF_eq (fun j _ => zz4 j) HN) em (by omega)
      · by_cases k2 : t.1 = 2
        · have em : mst (tsF L T here pr v w P) (S, va, s) t = (va :: S, (lop va, false, true, false), s) := by unfold mst; simp [k2]
          rw [k2] at n1
          simp [wp_ne 159, wpE, mk_X2_ask, mg, mc_X2_ask, lget, lset, popN, cats, rcv, entL, isArr, kC_s, kC_n, st1, st2, st3, st4, st5, st6, st7, st8, st9, st10, st11, st12, st13, st14, st15, st16, st17, st18, st19, st20, st21, st22, st23, st24, st25, st26, st27, st28, st29, st30, st31, st32, st33, st34, st35, st36, st37, st38, st39, st40, st41, st42, st43, st44, st45, st46, st47, st48, st49, st50, st51, st52, st53, st54, st55, st56, st57, st58, st59, st60, st61, st62, st63, st64, st65, st66, st67, st68, st69, st70, st71, st72, st73, st74, st75, st76, st77, st78, st79, st80, st81, st82, st83, st84, st85, st86, st87, st88, st89, st90, st91, x1, x2', x3', x4', x5, x7, x8, x9, n1, hil, hi50, hd0, c2, show ¬ (50 : Int) ≤ (i : Int) by omega, show (i : Int) < 50 by omega]
          refine t_enter (by omega) HT (by simp; omega) (fun zzh zz1 zz2 => ?_)
          obtain ⟨zz3, zz4⟩ := FA_tr HF zz1
          simp [wp_ne 159, wpE, mk_X2_ask, mg, mc_X2_ask, lget, lset, popN, cats, rcv, entL, isArr, kC_s, kC_n, st1, st2, st3, st4, st5, st6, st7, st8, st9, st10, st11, st12, st13, st14, st15, st16, st17, st18, st19, st20, st21, st22, st23, st24, st25, st26, st27, st28, st29, st30, st31, st32, st33, st34, st35, st36, st37, st38, st39, st40, st41, st42, st43, st44, st45, st46, st47, st48, st49, st50, st51, st52, st53, st54, st55, st56, st57, st58, st59, st60, st61, st62, st63, st64, st65, st66, st67, st68, st69, st70, st71, st72, st73, st74, st75, st76, st77, st78, st79, st80, st81, st82, st83, st84, st85, st86, st87, st88, st89, st90, st91]
          exact hcont zzh (va :: S) _ s _ (chI_mono (fun a => S5_SQ) zz1) zz3 (by rw [List.reverse_cons]; exact zz2) (NF_eq (fun j _ => zz4 j) HN) em (by simp; omega)
        · by_cases k3 : t.1 = 3
          · rw [k3] at n1
            simp [wp_ne 159, wpE, mk_X2_ask, mg, mc_X2_ask, lget, lset, popN, cats, rcv, entL, isArr, kC_s, kC_n, st1, st2, st3, st4, st5, st6, st7, st8, st9, st10, st11, st12, st13, st14, st15, st16, st17, st18, st19, st20, st21, st22, st23, st24, st25, st26, st27, st28, st29, st30, st31, st32, st33, st34, st35, st36, st37, st38, st39, st40, st41, st42, st43, st44, st45, st46, st47, st48, st49, st50, st51, st52, st53, st54, st55, st56, st57, st58, st59, st60, st61, st62, st63, st64, st65, st66, st67, st68, st69, st70, st71, st72, st73, st74, st75, st76, st77, st78, st79, st80, st81, st82, st83, st84, st85, st86, st87, st88, st89, st90, st91, x1, x2', x3', x4', x5, x7, x8, x9, n1, hil, hi50, hd0, c2, show ¬ (50 : Int) ≤ (i : Int) by omega, show (i : Int) < 50 by omega]
            cases hSc : S with
            | nil =>
              have em : mst (tsF L T here pr v w P) (S, va, s) t = (S, va, s) := by unfold mst; simp [k3, hSc]
              rw [hSc] at HT
              refine t_leave0 (by omega) HT ?_
              simp [wp_ne 159, wpE, mk_X2_ask, mg, mc_X2_ask, lget, lset, popN, cats, rcv, entL, isArr, kC_s, kC_n, st1, st2, st3, st4, st5, st6, st7, st8, st9, st10, st11, st12, st13, st14, st15, st16, st17, st18, st19, st20, st21, st22, st23, st24, st25, st26, st27, st28, st29, st30, st31, st32, st33, st34, st35, st36, st37, st38, st39, st40, st41, st42, st43, st44, st45, st46, st47, st48, st49, st50, st51, st52, st53, st54, st55, st56, st57, st58, st59, st60, st61, st62, st63, st64, st65, st66, st67, st68, st69, st70, st71, st72, st73, st74, st75, st76, st77, st78, st79, st80, st81, st82, st83, st84, st85, st86, st87, st88, st89, st90, st91]
              exact hcont h S va s _ chI_refl HF (by rw [hSc]; exact HT) HN em (by omega)
            | cons v0 S0 =>
              have em : mst (tsF L T here pr v w P) (S, va, s) t = (S0, ljn v0 (lva va), s) := by unfold mst; simp [k3, hSc]
              rw [hSc, List.reverse_cons] at HT
              refine t_leave (by omega) HT (fun zzh zz1 zz2 => ?_)
              obtain ⟨zz3, zz4⟩ := FA_tr HF zz1
              simp [wp_ne 159, wpE, mk_X2_ask, mg, mc_X2_ask, lget, lset, popN, cats, rcv, entL, isArr, kC_s, kC_n, st1, st2, st3, st4, st5, st6, st7, st8, st9, st10, st11, st12, st13, st14, st15, st16, st17, st18, st19, st20, st21, st22, st23, st24, st25, st26, st27, st28, st29, st30, st31, st32, st33, st34, st35, st36, st37, st38, st39, st40, st41, st42, st43, st44, st45, st46, st47, st48, st49, st50, st51, st52, st53, st54, st55, st56, st57, st58, st59, st60, st61, st62, st63, st64, st65, st66, st67, st68, st69, st70, st71, st72, st73, st74, st75, st76, st77, st78, st79, st80, st81, st82, st83, st84, st85, st86, st87, st88, st89, st90, st91]
              exact hcont zzh S0 _ s _ (chI_mono (fun a => S5_SQ) zz1) zz3 zz2 (NF_eq (fun j _ => zz4 j) HN) em (by rw [hSc] at hS; simp at hS; omega)
          · by_cases k5 : t.1 = 5
            · have em : mst (tsF L T here pr v w P) (S, va, s) t = (S, lna va, s) := by unfold mst; simp [k5]
              rw [k5] at n1
              simp [wp_ne 159, wpE, mk_X2_ask, mg, mc_X2_ask, lget, lset, popN, cats, rcv, entL, isArr, kC_s, kC_n, st1, st2, st3, st4, st5, st6, st7, st8, st9, st10, st11, st12, st13, st14, st15, st16, st17, st18, st19, st20, st21, st22, st23, st24, st25, st26, st27, st28, st29, st30, st31, st32, st33, st34, st35, st36, st37, st38, st39, st40, st41, st42, st43, st44, st45, st46, st47, st48, st49, st50, st51, st52, st53, st54, st55, st56, st57, st58, st59, st60, st61, st62, st63, st64, st65, st66, st67, st68, st69, st70, st71, st72, st73, st74, st75, st76, st77, st78, st79, st80, st81, st82, st83, st84, st85, st86, st87, st88, st89, st90, st91, x1, x2', x3', x4', x5, x7, x8, x9, n1, hil, hi50, hd0, c2, show ¬ (50 : Int) ≤ (i : Int) by omega, show (i : Int) < 50 by omega]
              refine t_nextAnd HT (fun zzh zz1 zz2 => ?_)
              obtain ⟨zz3, zz4⟩ := FA_tr HF zz1
              simp [wp_ne 159, wpE, mk_X2_ask, mg, mc_X2_ask, lget, lset, popN, cats, rcv, entL, isArr, kC_s, kC_n, st1, st2, st3, st4, st5, st6, st7, st8, st9, st10, st11, st12, st13, st14, st15, st16, st17, st18, st19, st20, st21, st22, st23, st24, st25, st26, st27, st28, st29, st30, st31, st32, st33, st34, st35, st36, st37, st38, st39, st40, st41, st42, st43, st44, st45, st46, st47, st48, st49, st50, st51, st52, st53, st54, st55, st56, st57, st58, st59, st60, st61, st62, st63, st64, st65, st66, st67, st68, st69, st70, st71, st72, st73, st74, st75, st76, st77, st78, st79, st80, st81, st82, st83, st84, st85, st86, st87, st88, st89, st90, st91]
              exact hcont zzh S _ s _ (chI_mono (fun a => S5_SQ) zz1) zz3 zz2 (NF_eq (fun j _ => zz4 j) HN) em (by omega)
            · by_cases k4 : t.1 = 4
              · have em : mst (tsF L T here pr v w P) (S, va, s) t = (S, va, s) := by unfold mst; simp [k4]
                rw [k4] at n1
                simp [wp_ne 159, wpE, mk_X2_ask, mg, mc_X2_ask, lget, lset, popN, cats, rcv, entL, isArr, kC_s, kC_n, st1, st2, st3, st4, st5, st6, st7, st8, st9, st10, st11, st12, st13, st14, st15, st16, st17, st18, st19, st20, st21, st22, st23, st24, st25, st26, st27, st28, st29, st30, st31, st32, st33, st34, st35, st36, st37, st38, st39, st40, st41, st42, st43, st44, st45, st46, st47, st48, st49, st50, st51, st52, st53, st54, st55, st56, st57, st58, st59, st60, st61, st62, st63, st64, st65, st66, st67, st68, st69, st70, st71, st72, st73, st74, st75, st76, st77, st78, st79, st80, st81, st82, st83, st84, st85, st86, st87, st88, st89, st90, st91, x1, x2', x3', x4', x5, x7, x8, x9, n1, hil, hi50, hd0, c2, show ¬ (50 : Int) ≤ (i : Int) by omega, show (i : Int) < 50 by omega]
                exact hcont h S va s _ chI_refl HF HT HN em (by omega)
              · have z1 : ¬ (t.1 : Int) = 1 := by omega
                have z2 : ¬ (t.1 : Int) = 2 := by omega
                have z3 : ¬ (t.1 : Int) = 3 := by omega
                have z4 : ¬ (t.1 : Int) = 4 := by omega
                have z5 : ¬ (t.1 : Int) = 5 := by omega
                have em : mst (tsF L T here pr v w P) (S, va, s) t = (bif lop va then (S, ljn va (tsF L T here pr v w P t s).1, (tsF L T here pr v w P t s).2) else (S, ljn va false, s)) := by unfold mst; rw [if_neg k1, if_neg k2, if_neg k3, if_neg k4, if_neg k5]
                generalize (t.1 : Int) = tz at *
                simp [wp_ne 159, wpE, mk_X2_ask, mg, mc_X2_ask, lget, lset, popN, cats, rcv, entL, isArr, kC_s, kC_n, st1, st2, st3, st4, st5, st6, st7, st8, st9, st10, st11, st12, st13, st14, st15, st16, st17, st18, st19, st20, st21, st22, st23, st24, st25, st26, st27, st28, st29, st30, st31, st32, st33, st34, st35, st36, st37, st38, st39, st40, st41, st42, st43, st44, st45, st46, st47, st48, st49, st50, st51, st52, st53, st54, st55, st56, st57, st58, st59, st60, st61, st62, st63, st64, st65, st66, st67, st68, st69, st70, st71, st72, st73, st74, st75, st76, st77, st78, st79, st80, st81, st82, st83, st84, st85, st86, st87, st88, st89, st90, st91, x1, x2', x3', x4', x5, x7, x8, x9, n1, hil, hi50, hd0, c2, show ¬ (50 : Int) ≤ (i : Int) by omega, show (i : Int) < 50 by omega, z1, z2, z3, z4, z5]
                refine t_isOpen HT ?_
                cases hlo : lop va with
                | false =>
                  rw [hlo] at em
                  simp only [cond_false] at em
                  have cj : ∀ {C : mQ} {X : mX}, (∀ h', chI (S5 (c + 20)) h h' → TH (c + 20) h' S.reverse (ljn va false) → C none h') → callG (wp G) d 58 0 0 2 [.inr (.inl (some (c + 20))), .inl 0] h C X := fun {C X} z => t_join (p := false) (by omega) HT z
                  simp [wp_ne 159, wpE, mk_X2_ask, mg, mc_X2_ask, lget, lset, popN, cats, rcv, entL, isArr, kC_s, kC_n, st1, st2, st3, st4, st5, st6, st7, st8, st9, st10, st11, st12, st13, st14, st15, st16, st17, st18, st19, st20, st21, st22, st23, st24, st25, st26, st27, st28, st29, st30, st31, st32, st33, st34, st35, st36, st37, st38, st39, st40, st41, st42, st43, st44, st45, st46, st47, st48, st49, st50, st51, st52, st53, st54, st55, st56, st57, st58, st59, st60, st61, st62, st63, st64, st65, st66, st67, st68, st69, st70, st71, st72, st73, st74, st75, st76, st77, st78, st79, st80, st81, st82, st83, st84, st85, st86, st87, st88, st89, st90, st91, b01, x1, x8, x9, hd0]
                  refine cj (fun zzh zz1 zz2 => ?_)
                  obtain ⟨zz3, zz4⟩ := FA_tr HF zz1
                  simp [wp_ne 159, wpE, mk_X2_ask, mg, mc_X2_ask, lget, lset, popN, cats, rcv, entL, isArr, kC_s, kC_n, st1, st2, st3, st4, st5, st6, st7, st8, st9, st10, st11, st12, st13, st14, st15, st16, st17, st18, st19, st20, st21, st22, st23, st24, st25, st26, st27, st28, st29, st30, st31, st32, st33, st34, st35, st36, st37, st38, st39, st40, st41, st42, st43, st44, st45, st46, st47, st48, st49, st50, st51, st52, st53, st54, st55, st56, st57, st58, st59, st60, st61, st62, st63, st64, st65, st66, st67, st68, st69, st70, st71, st72, st73, st74, st75, st76, st77, st78, st79, st80, st81, st82, st83, st84, st85, st86, st87, st88, st89, st90, st91]
                  exact hcont zzh S _ s _ (chI_mono (fun a => S5_SQ) zz1) zz3 zz2 (NF_eq (fun j _ => zz4 j) HN) em (by omega)
                | true =>
                  rw [hlo] at em
                  simp only [cond_true] at em
                  have nP : ∀ j, hvi h (c + 25) j = hvi h0 (c + 25) j := fun j => q0.2.2.2.2 _ _ (by unfold SQ; omega)
                  have hv1 : ND h a v := ND_ch (ch_cI q0) (fun x hx => SF_frn H0 x (SA_SF (SQ_SA hx))) hv
                  simp [wp_ne 159, wpE, mk_X2_ask, mg, mc_X2_ask, lget, lset, popN, cats, rcv, entL, isArr, kC_s, kC_n, st1, st2, st3, st4, st5, st6, st7, st8, st9, st10, st11, st12, st13, st14, st15, st16, st17, st18, st19, st20, st21, st22, st23, st24, st25, st26, st27, st28, st29, st30, st31, st32, st33, st34, st35, st36, st37, st38, st39, st40, st41, st42, st43, st44, st45, st46, st47, st48, st49, st50, st51, st52, st53, st54, st55, st56, st57, st58, st59, st60, st61, st62, st63, st64, st65, st66, st67, st68, st69, st70, st71, st72, st73, st74, st75, st76, st77, st78, st79, st80, st81, st82, st83, st84, st85, st86, st87, st88, st89, st90, st91, b01, x1, x8, x9, hd0, hv1.1]
                  refine f_isTrue (by omega) HF hv1 hb ht (by omega) (fun j hj => by rw [nP]; exact hP j hj) bP hl HN hw (fun j hj => by rw [nP]; exact hr j hj) hn hfn (fun zzh zz1 zz2 zz3 => ?_)
                  have zz4 := TH_I HT zz1
                  have zx1 : hty zzh (c + 19) = some (2, 14) := by rw [zz1.2.1]; exact x1
                  have zx8 : hvr zzh (c + 19) 4 = some (c + 20) := by rw [zz1.2.2.1]; exact x8
                  have zx9 : hty zzh (c + 20) = some (8, 5) := by rw [zz1.2.1]; exact x9
                  generalize tsF L T here pr v w P t s = rr at *
                  obtain ⟨rb, rs⟩ := rr
                  have cj : ∀ {C : mQ} {X : mX}, (∀ h', chI (S5 (c + 20)) zzh h' → TH (c + 20) h' S.reverse (ljn va rb) → C none h') → callG (wp G) d 58 0 0 2 [.inr (.inl (some (c + 20))), .inl (b01 rb)] zzh C X := fun {C X} z => t_join (p := rb) (by omega) zz4 z
                  have hlast : ∀ zzg, chI (S5 (c + 20)) zzh zzg → TH (c + 20) zzg S.reverse (ljn va rb) → ∀ x6, wp G d 16 159 [some (.inr (.inl (some (c + 19)))), some (.inr (.inl (some a))), x2, x3, x4, some (.inl (i : Int)), x6] [] zzg 0 0 C X := by
                    intro zzg zz5 zz6 x6
                    obtain ⟨zz7, zz8⟩ := FA_tr zz2 zz5
                    exact hcont zzg S _ rs _ (chI_trans (chI_mono (fun a => SI_SQ) zz1) (chI_mono (fun a => S5_SQ) zz5)) zz7 zz6 (NF_eq (fun j _ => zz8 j) (NF_eq zz3 HN)) em (by omega)
                  cases rb with
                  | false =>
                    simp only [b01, Bool.false_eq_true, if_false] at cj
                    simp [wp_ne 159, wpE, mk_X2_ask, mg, mc_X2_ask, lget, lset, popN, cats, rcv, entL, isArr, kC_s, kC_n, st1, st2, st3, st4, st5, st6, st7, st8, st9, st10, st11, st12, st13, st14, st15, st16, st17, st18, st19, st20, st21, st22, st23, st24, st25, st26, st27, st28, st29, st30, st31, st32, st33, st34, st35, st36, st37, st38, st39, st40, st41, st42, st43, st44, st45, st46, st47, st48, st49, st50, st51, st52, st53, st54, st55, st56, st57, st58, st59, st60, st61, st62, st63, st64, st65, st66, st67, st68, st69, st70, st71, st72, st73, st74, st75, st76, st77, st78, st79, st80, st81, st82, st83, st84, st85, st86, st87, st88, st89, st90, st91, b01, zx1, zx8, zx9, hd0]
                    refine cj (fun zzg zz5 zz6 => ?_)
                    simp [wp_ne 159, wpE, mk_X2_ask, mg, mc_X2_ask, lget, lset, popN, cats, rcv, entL, isArr, kC_s, kC_n, st1, st2, st3, st4, st5, st6, st7, st8, st9, st10, st11, st12, st13, st14, st15, st16, st17, st18, st19, st20, st21, st22, st23, st24, st25, st26, st27, st28, st29, st30, st31, st32, st33, st34, st35, st36, st37, st38, st39, st40, st41, st42, st43, st44, st45, st46, st47, st48, st49, st50, st51, st52, st53, st54, st55, st56, st57, st58, st59, st60, st61, st62, st63, st64, st65, st66, st67, st68, st69, st70, st71, st72, st73, st74, st75, st76, st77, st78, st79, st80, st81, st82, st83, st84, st85, st86, st87, st88, st89, st90, st91]
                    exact hlast zzg zz5 zz6 _
                  | true =>
                    simp only [b01, if_true] at cj
                    simp [wp_ne 159, wpE, mk_X2_ask, mg, mc_X2_ask, lget, lset, popN, cats, rcv, entL, isArr, kC_s, kC_n, st1, st2, st3, st4, st5, st6, st7, st8, st9, st10, st11, st12, st13, st14, st15, st16, st17, st18, st19, st20, st21, st22, st23, st24, st25, st26, st27, st28, st29, st30, st31, st32, st33, st34, st35, st36, st37, st38, st39, st40, st41, st42, st43, st44, st45, st46, st47, st48, st49, st50, st51, st52, st53, st54, st55, st56, st57, st58, st59, st60, st61, st62, st63, st64, st65, st66, st67, st68, st69, st70, st71, st72, st73, st74, st75, st76, st77, st78, st79, st80, st81, st82, st83, st84, st85, st86, st87, st88, st89, st90, st91, b01, zx1, zx8, zx9, hd0]
                    refine cj (fun zzg zz5 zz6 => ?_)
                    simp [wp_ne 159, wpE, mk_X2_ask, mg, mc_X2_ask, lget, lset, popN, cats, rcv, entL, isArr, kC_s, kC_n, st1, st2, st3, st4, st5, st6, st7, st8, st9, st10, st11, st12, st13, st14, st15, st16, st17, st18, st19, st20, st21, st22, st23, st24, st25, st26, st27, st28, st29, st30, st31, st32, st33, st34, st35, st36, st37, st38, st39, st40, st41, st42, st43, st44, st45, st46, st47, st48, st49, st50, st51, st52, st53, st54, st55, st56, st57, st58, st59, st60, st61, st62, st63, st64, st65, st66, st67, st68, st69, st70, st71, st72, st73, st74, st75, st76, st77, st78, st79, st80, st81, st82, st83, st84, st85, st86, st87, st88, st89, st90, st91]
                    exact hlast zzg zz5 zz6 _
    · have hii : i = K.length := by omega
      subst hii
      have hz := hC h (some (.inl (K.length : Int))) x6 q0 (by simp; exact HF) (by simp; exact HT) HN
      (repeat' (first | with_reducible assumption | (refine And.intro ?_ ?_) | (with_reducible intro _) | (simp [wp_ne 165, wpE, mk_X2_ask, mg, mc_X2_ask, lget, lset, popN, cats, rcv, entL, isArr, kC_s, kC_n, st1, st2, st3, st4, st5, st6, st7, st8, st9, st10, st11, st12, st13, st14, st15, st16, st17, st18, st19, st20, st21, st22, st23, st24, st25, st26, st27, st28, st29, st30, st31, st32, st33, st34, st35, st36, st37, st38, st39, st40, st41, st42, st43, st44, st45, st46, st47, st48, st49, st50, st51, st52, st53, st54, st55, st56, st57, st58, st59, st60, st61, st62, st63, st64, st65, st66, st67, st68, st69, st70, st71, st72, st73, st74, st75, st76, st77, st78, st79, st80, st81, st82, st83, st84, st85, st86, st87, st88, st89, st90, st91, x1, x2', x3', x5]))) <;> (try (first | omega | exact hz))
