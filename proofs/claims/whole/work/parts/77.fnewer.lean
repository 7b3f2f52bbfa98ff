theorem c_begsPath {G : Nat → Nat} {d l : Nat} {h : mH} {L : List Int} {C : mQ} {X : mX} (hd : 7 ≤ d) (H : LI l h L) (hC : C (some (.inl (b01 (isPth L)))) h) : callG (wp G) d 34 0 0 1 [.inr (.inl (some l))] h C X := by
  have hh := H
  obtain ⟨⟨a1, a2, a3, a4, a5, a6, a7⟩, ⟨b1, b2, b3, b4, b5⟩, b6⟩ := hh
  refine cg 6 (by omega) (fun d hd => ?_)
  have hd0 : (0 < d) = True := eq_true (by omega)
  (repeat' (first | with_reducible assumption | (refine c_letter (k := 0) (i := 0) (by omega) H ?_) | (refine c_is (w := 0) (by omega) H (by decide) (by decide) ?_) | (refine And.intro ?_ ?_) | (with_reducible intro _) | (simp [wp_eq, wpE, mk_X4_beginsWithPath, mg, mc_X4_beginsWithPath, lget, lset, popN, cats, rcv, entL, isArr, kC_s, kC_n, st1, st2, st3, st4, st5, st6, st7, st8, st9, st10, st11, st12, st13, st14, st15, st16, st17, st18, st19, st20, st21, st22, st23, st24, st25, st26, st27, st28, st29, st30, st31, st32, st33, st34, st35, st36, st37, st38, st39, st40, st41, st42, st43, st44, st45, st46, st47, st48, st49, st50, st51, st52, st53, st54, st55, st56, st57, st58, st59, st60, st61, st62, st63, st64, st65, st66, st67, st68, st69, st70, st71, st72, st73, st74, st75, st76, st77, st78, st79, st80, st81, st82, st83, st84, st85, st86, st87, st88, st89, st90, st91, a1, hd0, b4]))) <;> (try (first | omega | exact hz))
  all_goals (simp_all [isPth, b01, sT, sTxt])
theorem c_nodeOfWord2 {G : Nat → Nat} {d c k : Nat} {h : mH} {C : mQ} {X : mX} {L : List Int} {T : aT} {here : Nat} {O : List Int} {cp bad : Int} {fol : Bool} (hd : 7 ≤ d) (H : CS c h L T here O cp bad)
    (hC : ∀ h', ch (yS (c + 10)) h h' → CS c h' L T here O cp bad → (∀ (n : Nat) cm, nwR T here L k fol = ((n : Int), cm) → n < 48 ∧ cmO (c + 10) (c + 5) h' T n cm) → C (some (.inl (nwR T here L k fol).1)) h') :
    callG (wp G) d 86 0 0 3 [.inr (.inl (some c)), .inl (k : Int), .inl (b01 fol)] h C X := by
  have HH := H
  obtain ⟨h1, h2, h3, h4, h5, h6, h7, h8, h9, h10⟩ := HH
  have hLL := h2
  obtain ⟨⟨a1, a2, a3, a4, a5, a6, a7⟩, ⟨b1, b2, b3, b4, b5⟩, b6⟩ := hLL
  have x1 : hty h c = some (10, 7) := h1.1 (0, 10, 7) (by decide)
  have x2 : hvr h c 0 = some (c + 1) := h1.2 (0, 0, 1) (by decide)
  have x3 : hvr h c 2 = some (c + 10) := h1.2 (0, 2, 10) (by decide)
  have hw1 := h4.1
  unfold nwR at hC
  refine cg 6 (by omega) (fun d hd => ?_)
  have hd0 : (0 < d) = True := eq_true (by omega)
  by_cases hk : k < (wds L).length
  · rw [if_pos hk] at hC
    have hat := wds_at hk
    have hwl := wd_len L k
    have hE : (wE L k : Int) = ((wS L k + (wd L k).length : Nat) : Int) := by omega
    (repeat' (first | with_reducible assumption | (refine c_start h2 ?_) | (refine c_end h2 ?_) | (refine c_alongZ (o := wS L k) (u := wd L k) hE (by omega) (Or.inl rfl) h3 h10.2.1.1 (wf_W h10) h4 a5 (by omega) (by omega) (fun i hi => by rw [wd_get (by omega)]; exact b3 _ (by omega)) (fun q => by rw [q] at hwl; simp at hwl; omega) (wd_b b6 k) (by omega) ?_) | (refine And.intro ?_ ?_) | (with_reducible intro _) | (simp [wp_eq, wpE, mk_X10_nodeOfWord, mg, mc_X10_nodeOfWord, lget, lset, popN, cats, rcv, entL, isArr, kC_s, kC_n, st1, st2, st3, st4, st5, st6, st7, st8, st9, st10, st11, st12, st13, st14, st15, st16, st17, st18, st19, st20, st21, st22, st23, st24, st25, st26, st27, st28, st29, st30, st31, st32, st33, st34, st35, st36, st37, st38, st39, st40, st41, st42, st43, st44, st45, st46, st47, st48, st49, st50, st51, st52, st53, st54, st55, st56, st57, st58, st59, st60, st61, st62, st63, st64, st65, st66, st67, st68, st69, st70, st71, st72, st73, st74, st75, st76, st77, st78, st79, st80, st81, st82, st83, st84, st85, st86, st87, st88, st89, st90, st91, x1, x2, x3, hw1, a1, a2, b4, hk, hd0]))) <;> (try (first | omega | exact hz))
    rename_i zzh zz1 zz2 zz3
    exact hC zzh zz1 (CS_way H zz1 zz2) zz3
  · rw [if_neg hk] at hC
    have hz := hC h (ch_ofI chI_refl) H (fun n cm q => by cases q)
    (repeat' (first | with_reducible assumption | (refine And.intro ?_ ?_) | (with_reducible intro _) | (simp [wp_eq, wpE, mk_X10_nodeOfWord, mg, mc_X10_nodeOfWord, lget, lset, popN, cats, rcv, entL, isArr, kC_s, kC_n, st1, st2, st3, st4, st5, st6, st7, st8, st9, st10, st11, st12, st13, st14, st15, st16, st17, st18, st19, st20, st21, st22, st23, st24, st25, st26, st27, st28, st29, st30, st31, st32, st33, st34, st35, st36, st37, st38, st39, st40, st41, st42, st43, st44, st45, st46, st47, st48, st49, st50, st51, st52, st53, st54, st55, st56, st57, st58, st59, st60, st61, st62, st63, st64, st65, st66, st67, st68, st69, st70, st71, st72, st73, st74, st75, st76, st77, st78, st79, st80, st81, st82, st83, st84, st85, st86, st87, st88, st89, st90, st91, x1, x2, a1, b4, hk]))) <;> (try (first | omega | exact hz))
def lkN (T : aT) (here : Nat) (L : List Int) : List aK → Int
  | [] => 0
  | t :: K => if t.1 = 11 ∧ (nwR T here L t.2.1 true).1 < 0 then (nwR T here L t.2.1 true).1 else lkN T here L K
def dtK (h0 h : mH) (g : Nat) : Prop := hty h g = hty h0 g ∧ ∀ j, hvi h g j = hvi h0 g j
theorem EP_way {c : Nat} {h h' : mH} {K : List aK} (H : EP (c + 14) h K) (q : ∀ a j, c + 14 ≤ a → a ≤ c + 18 → hvi h' a j = hvi h a j) : EP (c + 14) h' K := by
  obtain ⟨g1, g2, g3, g4, g5⟩ := H
  refine ⟨g1, by rw [q _ _ (by omega) (by omega)]; exact g2, by rw [q _ _ (by omega) (by omega)]; exact g3, by rw [q _ _ (by omega) (by omega)]; exact g4, fun i t hi => ?_⟩
  obtain ⟨k1, k2, k3, k4⟩ := g5 i t hi
  exact ⟨by rw [q _ _ (by omega) (by omega)]; exact k1, fun z => by rw [q _ _ (by omega) (by omega)]; exact k2 z, fun z => by rw [q _ _ (by omega) (by omega)]; exact k3 z, fun z => by rw [q _ _ (by omega) (by omega)]; exact k4 z⟩
theorem nw_loop {G : Nat → Nat} {d c here g : Nat} {h0 : mH} {C : mQ} {X : mX} {L : List Int} {T : aT} {K : List aK} {O : List Int} {cp bad : Int} (hd : 8 ≤ d) (hg : hty h0 g = some (51, 1)) :
    ∀ (m i : Nat) (h : mH) (x2 x3 : Option mV), K.length ≤ i + m → i ≤ K.length → CS c h L T here O cp bad → EP (c + 14) h K → (∀ j t, j < i → K[j]? = some t → t.1 = 11 → hvi h (c + 17) j = dyW T here L t.2.1) → (∀ j, hvi h (c + 19) j = hvi h0 (c + 19) j) → dtK h0 h g →
    (∀ h', CS c h' L T here O cp bad → EP (c + 14) h' K → (lkN T here L (K.drop i) = 0 → ∀ j t, K[j]? = some t → t.1 = 11 → hvi h' (c + 17) j = dyW T here L t.2.1) → (∀ j, hvi h' (c + 19) j = hvi h0 (c + 19) j) → dtK h0 h' g → C (some (.inl (lkN T here L (K.drop i)))) h') →
    wp G d 89 100002 [some (.inr (.inl (some c))), some (.inl (i : Int)), x2, x3] [] h 0 0 C X := by
  have hd0 : (0 < d) = True := eq_true (by omega)
  intro m
  induction m with
  | zero =>
    intro i h x2 x3 hm hi HC HE hdy hn hD hC
    have hii : i = K.length := by omega
    subst hii
    have x1 : hty h c = some (10, 7) := HC.1.1 (0, 10, 7) (by decide)
    have y1 : hvr h c 4 = some (c + 14) := HC.1.2 (0, 4, 14) (by decide)
    have y2 : hty h (c + 14) = some (1, 8) := HC.1.1 (14, 1, 8) (by decide)
    have y3 : hvi h (c + 14) 5 = (K.length : Int) := HE.2.1
    have hz := hC h HC HE (fun _ j t hj ht => hdy j t (List.getElem?_eq_some_iff.mp hj).1 hj ht) hn hD
    simp [lkN] at hz
    rw [wp_hd]
    (repeat' (first | with_reducible assumption | (refine And.intro ?_ ?_) | (with_reducible intro _) | (simp [wp_eq, wpE, mk_X10_lookUpNewer, mg, mc_X10_lookUpNewer, lget, lset, popN, cats, rcv, entL, isArr, kC_s, kC_n, st1, st2, st3, st4, st5, st6, st7, st8, st9, st10, st11, st12, st13, st14, st15, st16, st17, st18, st19, st20, st21, st22, st23, st24, st25, st26, st27, st28, st29, st30, st31, st32, st33, st34, st35, st36, st37, st38, st39, st40, st41, st42, st43, st44, st45, st46, st47, st48, st49, st50, st51, st52, st53, st54, st55, st56, st57, st58, st59, st60, st61, st62, st63, st64, st65, st66, st67, st68, st69, st70, st71, st72, st73, st74, st75, st76, st77, st78, st79, st80, st81, st82, st83, st84, st85, st86, st87, st88, st89, st90, st91, x1, y1, y2, y3]))) <;> (try (first | omega | exact hz))
  | succ m ih =>
    intro i h x2 x3 hm hi HC HE hdy hn hD hC
    have x1 : hty h c = some (10, 7) := HC.1.1 (0, 10, 7) (by decide)
    have y1 : hvr h c 4 = some (c + 14) := HC.1.2 (0, 4, 14) (by decide)
    have y2 : hty h (c + 14) = some (1, 8) := HC.1.1 (14, 1, 8) (by decide)
    have y3 : hvi h (c + 14) 5 = (K.length : Int) := HE.2.1
    have y4 : hvr h (c + 14) 1 = some (c + 15) := HC.1.2 (14, 1, 15) (by decide)
    have y5 : hty h (c + 15) = some (20, 50) := HC.1.1 (15, 20, 50) (by decide)
    have y6 : hvr h (c + 14) 2 = some (c + 16) := HC.1.2 (14, 2, 16) (by decide)
    have y7 : hty h (c + 16) = some (20, 50) := HC.1.1 (16, 20, 50) (by decide)
    have h50 := HE.1
    rw [wp_hd]
    by_cases hil : i < K.length
    · obtain ⟨t, ht⟩ : ∃ t, K[i]? = some t := ⟨K[i], List.getElem?_eq_getElem hil⟩
      have hdr : K.drop i = t :: K.drop (i + 1) := by
        rw [List.drop_eq_getElem_cons hil]
        congr 1
        rw [List.getElem?_eq_getElem hil] at ht
        injection ht
      rw [hdr] at hC
      simp only [lkN] at hC
      have n1 : hvi h (c + 15) i = (t.1 : Int) := (HE.2.2.2.2 i t ht).1
      have c1 : ¬ (K.length : Int) ≤ (i : Int) := by omega
      have c2 : (i : Int) < 50 := by omega
      by_cases k11 : t.1 = 11
      · have n2 : hvi h (c + 16) i = (t.2.1 : Int) := (HE.2.2.2.2 i t ht).2.1 (by omega)
        rw [k11] at n1
        have cw : ∀ {C : mQ} {X : mX}, (∀ h', ch (yS (c + 10)) h h' → CS c h' L T here O cp bad → (∀ (n : Nat) cm, nwR T here L t.2.1 true = ((n : Int), cm) → n < 48 ∧ cmO (c + 10) (c + 5) h' T n cm) → C (some (.inl (nwR T here L t.2.1 true).1)) h') → callG (wp G) d 86 0 0 3 [.inr (.inl (some c)), .inl (t.2.1 : Int), .inl 1] h C X := fun {C X} z => c_nodeOfWord2 (fol := true) (by omega) HC z
        simp [wp_eq, wpE, mk_X10_lookUpNewer, mg, mc_X10_lookUpNewer, lget, lset, popN, cats, rcv, entL, isArr, kC_s, kC_n, st1, st2, st3, st4, st5, st6, st7, st8, st9, st10, st11, st12, st13, st14, st15, st16, st17, st18, st19, st20, st21, st22, st23, st24, st25, st26, st27, st28, st29, st30, st31, st32, st33, st34, st35, st36, st37, st38, st39, st40, st41, st42, st43, st44, st45, st46, st47, st48, st49, st50, st51, st52, st53, st54, st55, st56, st57, st58, st59, st60, st61, st62, st63, st64, st65, st66, st67, st68, st69, st70, st71, st72, st73, st74, st75, st76, st77, st78, st79, st80, st81, st82, st83, st84, st85, st86, st87, st88, st89, st90, st91, x1, y1, y2, y3, y4, y5, y6, y7, n1, n2, hil, c1, c2, hd0]
        refine cw (fun zzh zz1 zz2 zz3 => ?_)
        have nn : ∀ a j, ¬ a = c + 10 → ¬ a = c + 11 → hvi zzh a j = hvi h a j := fun a j na nb => (zz1.2.2.2 a (fun q => by unfold yS at q; omega) j).2
        have E1 : EP (c + 14) zzh K := EP_way HE (fun a j _ _ => nn a j (by omega) (by omega))
        have gg : ¬ g = c + 10 ∧ ¬ g = c + 11 := by
          have hW := HC.2.2.2.1
          refine ⟨fun q => ?_, fun q => ?_⟩
          · have := hD.1; rw [q, hW.1] at this; rw [q] at hg; rw [hg] at this; cases this
          · have := hD.1
            have h11 : hty h (c + 11) = some (21, 420) := hW.2.2.2
            rw [q, h11] at this; rw [q] at hg; rw [hg] at this; cases this
        have D1 : dtK h0 zzh g := ⟨by rw [zz1.2.1]; exact hD.1, fun j => by rw [nn _ _ gg.1 gg.2]; exact hD.2 j⟩
        have n19 : ∀ j, hvi zzh (c + 19) j = hvi h0 (c + 19) j := fun j => by rw [nn _ _ (by omega) (by omega)]; exact hn j
        by_cases hneg : (nwR T here L t.2.1 true).1 < 0
        · rw [if_pos ⟨k11, hneg⟩] at hC
          have hz := hC zzh zz2 E1 (fun q => by omega) n19 D1
          generalize (nwR T here L t.2.1 true).1 = zz9 at *
          (repeat' (first | with_reducible assumption | (refine And.intro ?_ ?_) | (with_reducible intro _) | (simp [wp_eq, wpE, mk_X10_lookUpNewer, mg, mc_X10_lookUpNewer, lget, lset, popN, cats, rcv, entL, isArr, kC_s, kC_n, st1, st2, st3, st4, st5, st6, st7, st8, st9, st10, st11, st12, st13, st14, st15, st16, st17, st18, st19, st20, st21, st22, st23, st24, st25, st26, st27, st28, st29, st30, st31, st32, st33, st34, st35, st36, st37, st38, st39, st40, st41, st42, st43, st44, st45, st46, st47, st48, st49, st50, st51, st52, st53, st54, st55, st56, st57, st58, st59, st60, st61, st62, st63, st64, st65, st66, st67, st68, st69, st70, st71, st72, st73, st74, st75, st76, st77, st78, st79, st80, st81, st82, st83, st84, st85, st86, st87, st88, st89, st90, st91, hneg, show ¬ 0 ≤ zz9 by omega]))) <;> (try (first | omega | exact hz))
        · rw [if_neg (fun q => hneg q.2)] at hC
          obtain ⟨n, hn9⟩ : ∃ n : Nat, (nwR T here L t.2.1 true).1 = (n : Int) := ⟨(nwR T here L t.2.1 true).1.toNat, by omega⟩
          have hn48 := (zz3 n (nwR T here L t.2.1 true).2 (by rw [← hn9])).1
          have hdyw : dyW T here L t.2.1 = tD T n := by unfold dyW; rw [hn9]; rfl
          rw [hn9]
          have w1 : hty zzh c = some (10, 7) := zz2.1.1 (0, 10, 7) (by decide)
          have w2 : hvr zzh c 1 = some (c + 5) := zz2.1.2 (0, 1, 5) (by decide)
          have w3 : hvr zzh c 4 = some (c + 14) := zz2.1.2 (0, 4, 14) (by decide)
          have w4 : hty zzh (c + 14) = some (1, 8) := zz2.1.1 (14, 1, 8) (by decide)
          have w5 : hvr zzh (c + 14) 3 = some (c + 17) := zz2.1.2 (14, 3, 17) (by decide)
          have w6 : hty zzh (c + 17) = some (20, 50) := zz2.1.1 (17, 20, 50) (by decide)
          have HT := zz2.2.2.1
          have w7 := HT.1
          have fin : wp G d 89 78 [some (.inr (.inl (some c))), some (.inl (i : Int)), some (.inl (n : Int)), some (.inr (.inl (hvr zzh (c + 5 + 1) n)))] [] (hsetI zzh (c + 17) i (tD T n)) 0 0 C X := by
            have q5 : chI (SF c) zzh (hsetI zzh (c + 17) i (tD T n)) := chI_set (by unfold SF; omega)
            have C2 := CS_chI (cp' := cp) zz2 q5 (PG_set (by omega) (by omega) zz2.2.2.2.2.2.1) (by rw [hvi_I, if_neg (by omega)]; exact zz2.2.2.2.2.2.2.1)
            have E2 : EP (c + 14) (hsetI zzh (c + 17) i (tD T n)) K := by
              obtain ⟨g1, g2, g3, g4, g5⟩ := E1
              refine ⟨g1, by rw [hvi_I, if_neg (by omega)]; exact g2, by rw [hvi_I, if_neg (by omega)]; exact g3, by rw [hvi_I, if_neg (by omega)]; exact g4, fun j s hj => ?_⟩
              obtain ⟨k1, k2, k3, k4⟩ := g5 j s hj
              refine ⟨by rw [hvi_I, if_neg (by omega)]; exact k1, fun z => by rw [hvi_I, if_neg (by omega)]; exact k2 z, fun z => ?_, fun z => by rw [hvi_I, if_neg (by omega)]; exact k4 z⟩
              have hji : ¬ j = i := fun q => by rw [q, ht] at hj; injection hj with hj; rw [← hj] at z; omega
              rw [hvi_I, if_neg (by omega)]; exact k3 z
            have hdy2 : ∀ j s, j < i + 1 → K[j]? = some s → s.1 = 11 → hvi (hsetI zzh (c + 17) i (tD T n)) (c + 17) j = dyW T here L s.2.1 := by
              intro j s hj hs h11
              by_cases hji : j = i
              · subst hji
                rw [ht] at hs
                injection hs with hs
                rw [hvi_I, if_pos ⟨rfl, rfl⟩, ← hs, hdyw]
              · rw [hvi_I, if_neg (fun q => hji q.2), nn _ _ (by omega) (by omega)]
                exact hdy j s (by omega) hs h11
            have g17 : ¬ g = c + 17 := fun q => by have := D1.1; rw [q, w6] at this; rw [q] at hg; rw [hg] at this; cases this
            have hz := fun x2 x3 => ih (i + 1) _ x2 x3 (by omega) (by omega) C2 E2 hdy2 (fun j => by rw [hvi_I, if_neg (by omega)]; exact n19 j) ⟨D1.1, fun j => by rw [hvi_I, if_neg (fun q => g17 q.1)]; exact D1.2 j⟩ hC
            generalize hsetI zzh (c + 17) i (tD T n) = zg at *
            (repeat' (first | with_reducible assumption | (refine And.intro ?_ ?_) | (with_reducible intro _) | (simp [wp_eq, wpE, mk_X10_lookUpNewer, mg, mc_X10_lookUpNewer, lget, lset, popN, cats, rcv, entL, isArr, kC_s, kC_n, st1, st2, st3, st4, st5, st6, st7, st8, st9, st10, st11, st12, st13, st14, st15, st16, st17, st18, st19, st20, st21, st22, st23, st24, st25, st26, st27, st28, st29, st30, st31, st32, st33, st34, st35, st36, st37, st38, st39, st40, st41, st42, st43, st44, st45, st46, st47, st48, st49, st50, st51, st52, st53, st54, st55, st56, st57, st58, st59, st60, st61, st62, st63, st64, st65, st66, st67, st68, st69, st70, st71, st72, st73, st74, st75, st76, st77, st78, st79, st80, st81, st82, st83, st84, st85, st86, st87, st88, st89, st90, st91, inR]))) <;> (try (first | omega | exact hz))
            all_goals first | omega | exact hz _ _
          have caN : ∀ {C : mQ} {X : mX}, C (some (.inr (.inl (hvr zzh (c + 5 + 1) n)))) zzh → callG (wp G) d 48 0 0 2 [.inr (.inl (some (c + 5))), .inl (n : Int)] zzh C X := fun {C X} z => c_atN hn48 HT z
          have hz := fin
          cases hTn : T n with
          | none =>
            have e1 := HT.2.2.2.2.2.1 n hn48 hTn
            have e2 : tD T n = 0 := by simp [tD, hTn]
            rw [e1] at caN hz
            rw [e2] at hz
            (repeat' (first | with_reducible assumption | (refine caN ?_) | (refine And.intro ?_ ?_) | (with_reducible intro _) | (simp [wp_ne 78, wpE, mk_X10_lookUpNewer, mg, mc_X10_lookUpNewer, lget, lset, popN, cats, rcv, entL, isArr, kC_s, kC_n, st1, st2, st3, st4, st5, st6, st7, st8, st9, st10, st11, st12, st13, st14, st15, st16, st17, st18, st19, st20, st21, st22, st23, st24, st25, st26, st27, st28, st29, st30, st31, st32, st33, st34, st35, st36, st37, st38, st39, st40, st41, st42, st43, st44, st45, st46, st47, st48, st49, st50, st51, st52, st53, st54, st55, st56, st57, st58, st59, st60, st61, st62, st63, st64, st65, st66, st67, st68, st69, st70, st71, st72, st73, st74, st75, st76, st77, st78, st79, st80, st81, st82, st83, st84, st85, st86, st87, st88, st89, st90, st91, w1, w2, w3, w4, w5, w6, w7, c2, hd0]))) <;> (try (first | omega | exact hz))
          | some v =>
            obtain ⟨a, e1, hv⟩ := HT.2.2.2.2.2.2.1 n v hn48 hTn
            have e2 : tD T n = nD v := by simp [tD, hTn]
            rw [e1] at caN hz
            rw [e2] at hz
            have v1 := hv.1
            have v4 := hv.2.2.2.1
            (repeat' (first | with_reducible assumption | (refine caN ?_) | (refine And.intro ?_ ?_) | (with_reducible intro _) | (simp [wp_ne 78, wpE, mk_X10_lookUpNewer, mg, mc_X10_lookUpNewer, lget, lset, popN, cats, rcv, entL, isArr, kC_s, kC_n, st1, st2, st3, st4, st5, st6, st7, st8, st9, st10, st11, st12, st13, st14, st15, st16, st17, st18, st19, st20, st21, st22, st23, st24, st25, st26, st27, st28, st29, st30, st31, st32, st33, st34, st35, st36, st37, st38, st39, st40, st41, st42, st43, st44, st45, st46, st47, st48, st49, st50, st51, st52, st53, st54, st55, st56, st57, st58, st59, st60, st61, st62, st63, st64, st65, st66, st67, st68, st69, st70, st71, st72, st73, st74, st75, st76, st77, st78, st79, st80, st81, st82, st83, st84, st85, st86, st87, st88, st89, st90, st91, w1, w2, w3, w4, w5, w6, w7, v1, v4, c2, hd0]))) <;> (try (first | omega | exact hz))
      · have k11i : ¬ (t.1 : Int) = 11 := by omega
        rw [if_neg (fun q => k11 q.1)] at hC
        have hz := fun x2 x3 => ih (i + 1) h x2 x3 (by omega) (by omega) HC HE (fun j s hj hs h11 => by
          by_cases hji : j = i
          · subst hji; rw [ht] at hs; injection hs with hs; rw [← hs] at h11; exact absurd h11 k11
          · exact hdy j s (by omega) hs h11) hn hD hC
        generalize (t.1 : Int) = tz at *
        (repeat' (first | with_reducible assumption | (refine And.intro ?_ ?_) | (with_reducible intro _) | (simp [wp_eq, wpE, mk_X10_lookUpNewer, mg, mc_X10_lookUpNewer, lget, lset, popN, cats, rcv, entL, isArr, kC_s, kC_n, st1, st2, st3, st4, st5, st6, st7, st8, st9, st10, st11, st12, st13, st14, st15, st16, st17, st18, st19, st20, st21, st22, st23, st24, st25, st26, st27, st28, st29, st30, st31, st32, st33, st34, st35, st36, st37, st38, st39, st40, st41, st42, st43, st44, st45, st46, st47, st48, st49, st50, st51, st52, st53, st54, st55, st56, st57, st58, st59, st60, st61, st62, st63, st64, st65, st66, st67, st68, st69, st70, st71, st72, st73, st74, st75, st76, st77, st78, st79, st80, st81, st82, st83, st84, st85, st86, st87, st88, st89, st90, st91, x1, y1, y2, y3, y4, y5, n1, hil, c1, c2, k11i, inR]))) <;> (try (first | omega | exact hz))
        all_goals first | omega | exact hz _ _
    · have hii : i = K.length := by omega
      subst hii
      have hz := hC h HC HE (fun _ j t hj ht => hdy j t (List.getElem?_eq_some_iff.mp hj).1 hj ht) hn hD
      simp [lkN] at hz
      (repeat' (first | with_reducible assumption | (refine And.intro ?_ ?_) | (with_reducible intro _) | (simp [wp_eq, wpE, mk_X10_lookUpNewer, mg, mc_X10_lookUpNewer, lget, lset, popN, cats, rcv, entL, isArr, kC_s, kC_n, st1, st2, st3, st4, st5, st6, st7, st8, st9, st10, st11, st12, st13, st14, st15, st16, st17, st18, st19, st20, st21, st22, st23, st24, st25, st26, st27, st28, st29, st30, st31, st32, st33, st34, st35, st36, st37, st38, st39, st40, st41, st42, st43, st44, st45, st46, st47, st48, st49, st50, st51, st52, st53, st54, st55, st56, st57, st58, st59, st60, st61, st62, st63, st64, st65, st66, st67, st68, st69, st70, st71, st72, st73, st74, st75, st76, st77, st78, st79, st80, st81, st82, st83, st84, st85, st86, st87, st88, st89, st90, st91, x1, y1, y2, y3]))) <;> (try (first | omega | exact hz))
theorem c_lookUpNewer {G : Nat → Nat} {d c here g : Nat} {h : mH} {C : mQ} {X : mX} {L : List Int} {T : aT} {K : List aK} {O : List Int} {cp bad : Int} (hd : 9 ≤ d) (hg : hty h g = some (51, 1)) (HC : CS c h L T here O cp bad) (HE : EP (c + 14) h K)
    (hC : ∀ h', CS c h' L T here O cp bad → EP (c + 14) h' K → (lkN T here L K = 0 → ∀ j t, K[j]? = some t → t.1 = 11 → hvi h' (c + 17) j = dyW T here L t.2.1) → (∀ j, hvi h' (c + 19) j = hvi h (c + 19) j) → dtK h h' g → C (some (.inl (lkN T here L K))) h') :
    callG (wp G) d 89 0 0 4 [.inr (.inl (some c))] h C X := by
  refine cg 8 (by omega) (fun d hd => ?_)
  have hd0 : (0 < d) = True := eq_true (by omega)
  have hz := nw_loop (G := G) (d := d) (C := C) (X := fun _ _ => False) (by omega) hg K.length 0 h none none (by omega) (by omega) HC HE (fun j t hj => by omega) (fun _ => rfl) ⟨rfl, fun _ => rfl⟩ (fun h' p1 p2 p3 p4 p5 => by rw [List.drop_zero] at p3 ⊢; exact hC h' p1 p2 p3 p4 p5)
  (repeat' (first | with_reducible assumption | (refine And.intro ?_ ?_) | (with_reducible intro _) | (simp [wp_eq, wpE, mk_X10_lookUpNewer, mg, mc_X10_lookUpNewer, lget, lset, popN, cats, rcv, entL, isArr, kC_s, kC_n, st1, st2, st3, st4, st5, st6, st7, st8, st9, st10, st11, st12, st13, st14, st15, st16, st17, st18, st19, st20, st21, st22, st23, st24, st25, st26, st27, st28, st29, st30, st31, st32, st33, st34, st35, st36, st37, st38, st39, st40, st41, st42, st43, st44, st45, st46, st47, st48, st49, st50, st51, st52, st53, st54, st55, st56, st57, st58, st59, st60, st61, st62, st63, st64, st65, st66, st67, st68, st69, st70, st71, st72, st73, st74, st75, st76, st77, st78, st79, st80, st81, st82, st83, st84, st85, st86, st87, st88, st89, st90, st91]))) <;> (try (first | omega | exact hz))
