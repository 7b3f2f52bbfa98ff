/-! the reference reads an expression as the class does -/
def nwK (K : List aK) : List Int := (K.filter (fun t => t.1 == 11)).map (fun t => (t.2.1 : Int))
theorem nwK_app (K : List aK) (t : aK) : nwK (K ++ [t]) = nwK K ++ (if t.1 = 11 then [(t.2.1 : Int)] else []) := by
  unfold nwK
  rw [List.filter_append, List.map_append]
  by_cases h : t.1 = 11 <;> simp [h]
def sPR : List Nat := [19, 20, 21, 23, 24, 127, 135, 136, 137]
def ppo (r : Nat) (h : mH) (K : List aK) : Prop := ∃ N p, NW r h N (nwK K) ∧ N ≤ 51 ∧ p < N ∧ hvi h r 35 = (p : Int) ∧ PH r h (rtK K) p ∧ hvi h r 36 = b01 (K.any (fun t => t.1 == 13)) ∧ hvi h r 37 = b01 (K.any (fun t => t.1 == 14))
theorem any_app (K : List aK) (t : aK) (i : Nat) : (K ++ [t]).any (fun t => t.1 == i) = (K.any (fun t => t.1 == i) || t.1 == i) := by simp
theorem PH_35 {r p : Nat} {h : mH} {e : bT} {v : Int} (H : PH r h e p) : PH r (hsetI h r 35 v) e p := pT_mono e p (fun i _ => ⟨by rw [hvi_I, if_neg (by omega)], by rw [hvi_I, if_neg (by omega)], by rw [hvi_I, if_neg (by omega)]⟩) H
theorem parse_loop {G : Nat → Nat} {d r : Nat} {x1 : Option mV} {C : mQ} {X : mX} {L : List Int} (hd : 5 ≤ d) (hl : L.length ≤ 100) :
    ∀ (f w o : Nat) (wn : Bool) (K : List aK) (h : mH) (N : Nat) (x6 x7 x8 : Option mV), (wds L).length < f + w → w ≤ (wds L).length → okz (zK K) o wn → RN r h → RP r h L → RW r h L → NW r h N (nwK K) → PIL r h (pileZ (zK K)) → OP r h N (opsZ (zK K)) → 2 * bnz (zK K) N ≤ pos L w → o ≤ w → hvi h r 36 = b01 (K.any (fun t => t.1 == 13)) → hvi h r 37 = b01 (K.any (fun t => t.1 == 14)) →
    (∀ h', chJ (sR r sPR) h h' → ((rdP L f w o wn K).1 = -1 → ppo r h' (rdP L f w o wn K).2) → C (some (.inl (rdP L f w o wn K).1)) h') →
    wp G d 127 100053 [some (.inr (.inl (some r))), x1, some (.inl ((pileZ (zK K)).length : Int)), some (.inl ((opsZ (zK K)).length : Int)), some (.inl (b01 wn)), some (.inl (w : Int)), x6, x7, x8] [] h 0 0 C X := by
  have hd0 : (0 < d) = True := eq_true (by omega)
  have h50 := wds_len hl
  intro f
  induction f with
  | zero => intro w o wn K h N x6 x7 x8 h1 h2; omega
  | succ f ih =>
    intro w o wn K h N x6 x7 x8 hf hwl hz HR HP HW HN HL HO hb how f36 f37 hC
    have hpl := pos_le (L := L) w
    have hb51 : bnz (zK K) N ≤ 50 := by omega
    have hzl : (zK K).1.length ≤ 50 := by have := hz.1; omega
    simp only [rdP] at hC
    by_cases hw : w < (wds L).length
    · rw [if_neg (fun q => q hw)] at hC
      have hps := pos_step hw
      have hwd := wds_at hw
      have hwdl := wd_len L w
      -- from any heap with the state of a token more
      have nxt : ∀ (t : aK) (w' o' : Nat) (wn' : Bool) (h1 : mH) (N1 : Nat) (x6 x7 x8 : Option mV), okz (zK (K ++ [t])) o' wn' → chJ (sR r sPR) h h1 → NW r h1 N1 (nwK (K ++ [t])) → PIL r h1 (pileZ (shk (zK K) t)) → OP r h1 N1 (opsZ (shk (zK K) t)) → 2 * bnz (shk (zK K) t) N1 ≤ pos L w' → w < w' → w' ≤ (wds L).length → o' ≤ w' → hvi h1 r 36 = b01 (K.any (fun t => t.1 == 13) || t.1 == 13) → hvi h1 r 37 = b01 (K.any (fun t => t.1 == 14) || t.1 == 14) → (∀ h', chJ (sR r sPR) h h' → ((rdP L f w' o' wn' (K ++ [t])).1 = -1 → ppo r h' (rdP L f w' o' wn' (K ++ [t])).2) → C (some (.inl (rdP L f w' o' wn' (K ++ [t])).1)) h') →
          wp G d 127 100053 [some (.inr (.inl (some r))), x1, some (.inl ((pileZ (shk (zK K) t)).length : Int)), some (.inl ((opsZ (shk (zK K) t)).length : Int)), some (.inl (b01 wn')), some (.inl (w' : Int)), x6, x7, x8] [] h1 0 0 C X := by
        intro t w' o' wn' h1 N1 x6 x7 x8 hz' q1 n1 l1 p1 b1 hww hw'l ho' g36 g37 hC'
        have := ih w' o' wn' (K ++ [t]) h1 N1 x6 x7 x8 (by omega) hw'l hz' (RN_ch q1 HR) (RP_ch q1 (by simp [sPR]) (by simp [sPR]) (by simp [sPR]) HP) (RW_ch q1 (by simp [sPR]) HW) n1 (by rw [zK_app]; exact l1) (by rw [zK_app]; exact p1) (by rw [zK_app]; exact b1) ho' (by rw [any_app]; exact g36) (by rw [any_app]; exact g37) (fun h' s1 s2 => hC' h' (chJ_trans q1 s1) s2)
        rw [zK_app] at this
        exact this
      have hA := okz_A hz
      -- where a test is wanted
      have wanted : (wn = true ∨ kdOf (wd L w) = 1 ∨ kdOf (wd L w) = 2 ∨ 6 ≤ kdOf (wd L w)) → ∀ (h1 : mH) (N1 : Nat) (x6 x7 x8 : Option mV), chJ (sR r sPQ) h h1 → NW r h1 N1 (nwK K) → PIL r h1 (pileZ (shA (zK K))) → OP r h1 N1 (opsZ (shA (zK K))) → bnz (shA (zK K)) N1 = bnz (zK K) N → hvi h1 r 36 = b01 (K.any (fun t => t.1 == 13)) → hvi h1 r 37 = b01 (K.any (fun t => t.1 == 14)) → wp G d 127 100053 [some (.inr (.inl (some r))), x1, some (.inl ((pileZ (shA (zK K))).length : Int)), some (.inl ((opsZ (shA (zK K))).length : Int)), some (.inl 1), some (.inl (w : Int)), x6, x7, x8] [] h1 0 0 C X := by
        intro hwk h1 N1 x6 x7 x8 q1 n1 l1 p1 b1 g36 g37
        have zl : (shA (zK K)).1.length ≤ 50 := by have := hA.1.1; have := hz.1; omega
        refine pW hd hl hw hA.2 (RN_ch q1 HR) (RP_ch q1 (by simp [sPQ]) (by simp [sPQ]) (by simp [sPQ]) HP) (RW_ch q1 (by simp [sPQ]) HW) n1 l1 p1 (by omega) zl g36 g37 ?_ ?_ ?_ ?_ ?_
        · intro k1 h2 x6 x7 x8 q2 n2 l2 p2 s36 s37
          have es : shk (zK K) (1, 0, 0, 0) = shN (shA (zK K)) := by unfold shk; rw [if_pos rfl]
          have pn := shN_p hA.2
          rw [if_pos (Or.inl k1), if_neg (by omega), Nat.add_zero, k1] at hC
          have hn := nxt (1, 0, 0, 0) (w + 1) o true h2 N1 x6 x7 x8 (by rw [zK_app]; exact okz_1 (t := (1, 0, 0, 0)) hz (Or.inl rfl)) (chJ_sub (chJ_trans q1 q2) (by simp [sPQ, sPR])) (by rw [nwK_app, if_neg (by simp), List.append_nil]; exact n2) (by rw [es]; exact l2) (by rw [es]; exact p2) (by
            rw [es]; unfold bnz at b1 hb ⊢; rw [pn.2.1, pn.2.2]; omega) (by omega) (by omega) (by omega) (by rw [s36]; simp) (by rw [s37]; simp) hC
          rw [es] at hn
          exact hn
        · intro k2 h2 x6 x7 x8 q2 n2 l2 p2 s36 s37
          have es : shk (zK K) (2, 0, 0, 0) = shP (shA (zK K)) := by unfold shk; rw [if_neg (by simp), if_pos rfl]
          have pn := shP_p hA.2
          rw [if_pos (Or.inr k2), if_pos k2, k2] at hC
          have hn := nxt (2, 0, 0, 0) (w + 1) (o + 1) true h2 N1 x6 x7 x8 (by rw [zK_app]; exact okz_1 (t := (2, 0, 0, 0)) hz (Or.inr rfl)) (chJ_sub (chJ_trans q1 q2) (by simp [sPQ, sPR])) (by rw [nwK_app, if_neg (by simp), List.append_nil]; exact n2) (by rw [es]; exact l2) (by rw [es]; exact p2) (by
            rw [es]; unfold bnz at b1 hb ⊢; rw [pn.2.1, pn.2.2]; omega) (by omega) (by omega) (by omega) (by rw [s36]; simp) (by rw [s37]; simp) hC
          rw [es] at hn
          exact hn
        · intro t wi k6 ht ht2 hcase h2 N2 x6 x7 x8 q2 n2 l2 p2 b2 s36 s37
          have es : shk (zK K) t = shT t (shA (zK K)) := by unfold shk; rw [if_neg (by omega), if_neg (by omega), if_neg (by omega), if_neg (by omega), if_neg (by omega)]
          have k5 := kd_len k6
          rw [if_neg (by omega), if_pos k6] at hC
          have nw2 : NW r h2 N2 (nwK (K ++ [t])) := by
            rw [nwK_app]
            by_cases h11 : t.1 = 11
            · rw [if_pos h11] at n2 ⊢; rw [ht2 (by omega)]; exact n2
            · rw [if_neg h11] at n2 ⊢; exact n2
          have go : ∀ w', w' = wi + 1 → w < w' → w' ≤ (wds L).length → (∀ h', chJ (sR r sPR) h h' → ((rdP L f w' o false (K ++ [t])).1 = -1 → ppo r h' (rdP L f w' o false (K ++ [t])).2) → C (some (.inl (rdP L f w' o false (K ++ [t])).1)) h') → pos L w + 4 ≤ pos L w' → wp G d 127 100053 [some (.inr (.inl (some r))), x1, some (.inl ((pileZ (shT t (shA (zK K)))).length : Int)), some (.inl ((opsZ (shT t (shA (zK K)))).length : Int)), some (.inl 0), some (.inl ((wi + 1 : Nat) : Int)), x6, x7, x8] [] h2 0 0 C X := by
            intro w' hw' hww hwl' hC' hpp
            have hn := nxt t w' o false h2 N2 x6 x7 x8 (by rw [zK_app]; exact okz_6 hz (by omega)) (chJ_sub (chJ_trans q1 q2) (by simp [sPQ, sPR])) nw2 (by rw [es]; exact l2) (by rw [es]; exact p2) (by rw [es]; omega) hww hwl' (by omega) s36 s37 hC'
            rw [es, hw'] at hn
            exact hn
          rcases hcase with ⟨k12, hw1, hwi, p, hop, htt⟩ | ⟨k12, hwi, htt⟩
          · rw [if_pos k12, if_pos hw1, hop] at hC
            simp only at hC
            rw [← htt] at hC
            have hps2 := pos_step hw1
            exact go (w + 2) (by omega) (by omega) (by omega) hC (by rw [show w + 2 = w + 1 + 1 by omega]; omega)
          · rw [if_neg (by omega), ← htt] at hC
            exact go (w + 1) (by omega) (by omega) (by omega) hC (by omega)
        · intro k6 k12 hop
          rw [if_neg (by omega), if_pos k6, if_pos k12, hop] at hC
          simp only at hC
          exact hC h1 (chJ_sub q1 (by simp [sPQ, sPR])) (fun q => by omega)
        · intro k1 k6
          rw [if_neg k1, if_neg k6, if_pos (Or.inl (by
            rcases hwk with q | q | q | q
            · exact q
            · exact absurd (Or.inl q) k1
            · exact absurd (Or.inr q) k1
            · exact absurd q k6))] at hC
          exact hC h1 (chJ_sub q1 (by simp [sPQ, sPR])) (fun q => by simp at q)
      cases wn with
      | true =>
        have hcn : (zK K).2.2 = none := by
          cases hq : (zK K).2.2 with
          | none => rfl
          | some e => have := hz.2.1; rw [hq] at this; simp at this
        have eA : shA (zK K) = zK K := by unfold shA; rw [hcn]
        rw [eA] at wanted
        exact wanted (Or.inl rfl) h N x6 x7 x8 chJ_refl HN HL HO rfl f36 f37
      | false =>
        obtain ⟨e, hce⟩ : ∃ e, (zK K).2.2 = some e := by
          cases hq : (zK K).2.2 with
          | none => have := hz.2.1; rw [hq] at this; simp at this
          | some e => exact ⟨e, rfl⟩
        have hk0 : (zK K).2.1.2.2 = 0 := hz.2.2 (by rw [hce]; simp)
        have c16 := HW.1
        have h14 := kd_14 (wd L w)
        have R0 := HR.1; have R_pile := rn_pile HR; have R_operands := rn_operands HR
        have ct : ∀ {C : mQ} {X : mX}, C (some (.inl (tsO (wd L w)))) h → callG (wp G) d 123 0 0 2 [.inr (.inl (some r)), .inl (w : Int)] h C X := fun {C X} q => r_testOf (by omega) HR hl HP HW hw q
        have iw1 : ∀ {C : mQ} {X : mX}, C (some (.inl (b01 (decide (kdOf (wd L w) = 1))))) h → callG (wp G) d 98 0 0 5 [.inr (.inl (some r)), .inl (w : Int), .inl 33, .inl 0] h C X := fun {C X} q => r_isWord (a := 33) (b := 0) (by omega) HR hl HP HW hw (by rw [← kd_is (w := wd L w) (i := 1) (by omega) (by omega)] at q; exact q)
        have iw2 : ∀ {C : mQ} {X : mX}, C (some (.inl (b01 (decide (kdOf (wd L w) = 2))))) h → callG (wp G) d 98 0 0 5 [.inr (.inl (some r)), .inl (w : Int), .inl 40, .inl 0] h C X := fun {C X} q => r_isWord (a := 40) (b := 0) (by omega) HR hl HP HW hw (by rw [← kd_is (w := wd L w) (i := 2) (by omega) (by omega)] at q; exact q)
        have iw3 : ∀ {C : mQ} {X : mX}, C (some (.inl (b01 (decide (kdOf (wd L w) = 3))))) h → callG (wp G) d 98 0 0 5 [.inr (.inl (some r)), .inl (w : Int), .inl 41, .inl 0] h C X := fun {C X} q => r_isWord (a := 41) (b := 0) (by omega) HR hl HP HW hw (by rw [← kd_is (w := wd L w) (i := 3) (by omega) (by omega)] at q; exact q)
        have iw4 : ∀ {C : mQ} {X : mX}, C (some (.inl (b01 (decide (kdOf (wd L w) = 4))))) h → callG (wp G) d 98 0 0 5 [.inr (.inl (some r)), .inl (w : Int), .inl 45, .inl 97] h C X := fun {C X} q => r_isWord (a := 45) (b := 97) (by omega) HR hl HP HW hw (by rw [← kd_is (w := wd L w) (i := 4) (by omega) (by omega)] at q; exact q)
        have iw5 : ∀ {C : mQ} {X : mX}, C (some (.inl (b01 (decide (kdOf (wd L w) = 5))))) h → callG (wp G) d 98 0 0 5 [.inr (.inl (some r)), .inl (w : Int), .inl 45, .inl 111] h C X := fun {C X} q => r_isWord (a := 45) (b := 111) (by omega) HR hl HP HW hw (by rw [← kd_is (w := wd L w) (i := 5) (by omega) (by omega)] at q; exact q)
        have hwi : ¬ ((wds L).length : Int) ≤ (w : Int) := by omega
        have hwi2 : (w : Int) < ((wds L).length : Int) := by omega
        have chQ : ∀ {h' : mH} {l : List Nat}, chJ (sR r l) h h' → (∀ c ∈ l, c ∈ sPP) → hvi h' r 36 = hvi h r 36 ∧ hvi h' r 37 = hvi h r 37 := fun {h' l} q hs => ⟨chJ_fld q (fun z => by have := hs _ z; simp [sPP] at this) (fun z => by have := hs _ z; simp [sPP] at this), chJ_fld q (fun z => by have := hs _ z; simp [sPP] at this) (fun z => by have := hs _ z; simp [sPP] at this)⟩
        have ao := fun (b c2 : Bool) x6 hC9 => pAO (G := G) (d := d) (C := C) (X := X) (x1 := x1) (x4 := some (.inl 0)) (x6 := x6) (b := b) (c2 := c2) (w := w) (by omega) hce hk0 HR HN HL HO (by omega) hzl (by omega) hC9
        rw [wp_hd]
        by_cases kI : kdOf (wd L w) = 1 ∨ kdOf (wd L w) = 2 ∨ 6 ≤ kdOf (wd L w)
        · have hz402 : ∀ x6, wp G d 127 100402 [some (.inr (.inl (some r))), x1, some (.inl ((pileZ (zK K)).length : Int)), some (.inl ((opsZ (zK K)).length : Int)), some (.inl 0), some (.inl (w : Int)), x6, some (.inl 0), some (.inl 0)] [] h 0 0 C X := fun x6 => ao false false x6 (fun h' N' x7 x8 q1 q2 q3 q4 q5 => by
            simp only [Bool.false_eq_true, if_false, Bool.or_self] at q3 q4 q5 ⊢
            exact wanted (Or.inr kI) h' N' x6 x7 x8 (chJ_sub q1 (by simp [sPP, sPQ])) q2 q3 q4 q5 (by rw [(chQ q1 (fun _ z => z)).1]; exact f36) (by rw [(chQ q1 (fun _ z => z)).2]; exact f37))
          have hz := hz402
          generalize (pileZ (zK K)).length = by1 at *
          generalize (opsZ (zK K)).length = by2 at *
          have n3 : ¬ kdOf (wd L w) = 3 := by omega
          have n4 : ¬ kdOf (wd L w) = 4 := by omega
          have n5 : ¬ kdOf (wd L w) = 5 := by omega
          by_cases k6 : 6 ≤ kdOf (wd L w)
          · have ets : 0 ≤ tsO (wd L w) := by unfold tsO; rw [if_pos k6]; omega
            generalize tsO (wd L w) = zt at *
            simp only [b01, Bool.false_eq_true, if_false]
            (repeat' (first | with_reducible assumption | (refine ct ?_) | (refine iw3 ?_) | (refine iw5 ?_) | (refine iw4 ?_) | (refine And.intro ?_ ?_) | (with_reducible intro _) | (simp [wp_eq, wpE, mk_X11_parse, mg, mc_X11_parse, lget, lset, popN, cats, rcv, entL, isArr, kC_s, kC_n, st1, st2, st3, st4, st5, st6, st7, st8, st9, st10, st11, st12, st13, st14, st15, st16, st17, st18, st19, st20, st21, st22, st23, st24, st25, st26, st27, st28, st29, st30, st31, st32, st33, st34, st35, st36, st37, st38, st39, st40, st41, st42, st43, st44, st45, st46, st47, st48, st49, st50, st51, st52, st53, st54, st55, st56, st57, st58, st59, st60, st61, st62, st63, st64, st65, st66, st67, st68, st69, st70, st71, st72, st73, st74, st75, st76, st77, st78, st79, st80, st81, st82, st83, st84, st85, st86, st87, st88, st89, st90, st91, R0, R_pile, R_operands, c16, hwi, hwi2, hw, hd0, n3, n4, n5, b01, inR, ets, show ¬ zt < 0 by omega]))) <;> (try (first | omega | exact hz))
            all_goals first | omega | exact hz _
          · have ets : tsO (wd L w) = -1 := by unfold tsO; rw [if_neg k6]
            rw [ets] at ct
            rcases kI with k1 | k2 | k3
            · simp only [b01, Bool.false_eq_true, if_false]
              (repeat' (first | with_reducible assumption | (refine ct ?_) | (refine iw3 ?_) | (refine iw5 ?_) | (refine iw4 ?_) | (refine iw1 ?_) | (refine And.intro ?_ ?_) | (with_reducible intro _) | (simp [wp_eq, wpE, mk_X11_parse, mg, mc_X11_parse, lget, lset, popN, cats, rcv, entL, isArr, kC_s, kC_n, st1, st2, st3, st4, st5, st6, st7, st8, st9, st10, st11, st12, st13, st14, st15, st16, st17, st18, st19, st20, st21, st22, st23, st24, st25, st26, st27, st28, st29, st30, st31, st32, st33, st34, st35, st36, st37, st38, st39, st40, st41, st42, st43, st44, st45, st46, st47, st48, st49, st50, st51, st52, st53, st54, st55, st56, st57, st58, st59, st60, st61, st62, st63, st64, st65, st66, st67, st68, st69, st70, st71, st72, st73, st74, st75, st76, st77, st78, st79, st80, st81, st82, st83, st84, st85, st86, st87, st88, st89, st90, st91, R0, R_pile, R_operands, c16, hwi, hwi2, hw, hd0, n3, n4, n5, k1, b01, inR]))) <;> (try (first | omega | exact hz))
              all_goals first | omega | exact hz _
            · simp only [b01, Bool.false_eq_true, if_false]
              (repeat' (first | with_reducible assumption | (refine ct ?_) | (refine iw3 ?_) | (refine iw5 ?_) | (refine iw4 ?_) | (refine iw1 ?_) | (refine iw2 ?_) | (refine And.intro ?_ ?_) | (with_reducible intro _) | (simp [wp_eq, wpE, mk_X11_parse, mg, mc_X11_parse, lget, lset, popN, cats, rcv, entL, isArr, kC_s, kC_n, st1, st2, st3, st4, st5, st6, st7, st8, st9, st10, st11, st12, st13, st14, st15, st16, st17, st18, st19, st20, st21, st22, st23, st24, st25, st26, st27, st28, st29, st30, st31, st32, st33, st34, st35, st36, st37, st38, st39, st40, st41, st42, st43, st44, st45, st46, st47, st48, st49, st50, st51, st52, st53, st54, st55, st56, st57, st58, st59, st60, st61, st62, st63, st64, st65, st66, st67, st68, st69, st70, st71, st72, st73, st74, st75, st76, st77, st78, st79, st80, st81, st82, st83, st84, st85, st86, st87, st88, st89, st90, st91, R0, R_pile, R_operands, c16, hwi, hwi2, hw, hd0, n3, n4, n5, k2, b01, inR]))) <;> (try (first | omega | exact hz))
              all_goals first | omega | exact hz _
            · exact absurd k3 k6
        · rw [if_neg (by omega), if_neg (by omega)] at hC
          have ets : tsO (wd L w) = -1 := by unfold tsO; rw [if_neg (by omega)]
          rw [ets] at ct
          have m1 : ¬ kdOf (wd L w) = 1 := by omega
          have m2 : ¬ kdOf (wd L w) = 2 := by omega
          by_cases k3 : kdOf (wd L w) = 3
          · rw [k3] at hC
            by_cases ho0 : o = 0
            · rw [if_pos (by simp [ho0])] at hC
              have hzn : (zK K).1 = [] := List.eq_nil_of_length_eq_zero (by have := hz.1; omega)
              have hfin := hC h chJ_refl (fun q => by simp at q)
              have hpz := pileZ_len (zK K)
              have no12 : ∀ i, i < (pileZ (zK K)).length → ¬ hvi h (r + 23) i = 12 := by
                intro i hi
                have hg := HL i _ (List.getElem?_eq_getElem hi)
                rw [hg]
                have hmem := List.getElem_mem hi
                have : ∀ y ∈ pileZ (zK K), ¬ y = 12 := by
                  intro y hy
                  unfold pileZ at hy
                  rw [hzn] at hy
                  simp only [pileL, List.nil_append, pileV, hk0] at hy
                  cases h1 : (zK K).2.1.1 <;> cases h2 : (zK K).2.1.2.1 <;> simp [h1, h2] at hy <;> omega
                have := this _ hmem
                omega
              have hbz : N + (opsZ (zK K)).length + pnd (zK K) ≤ 50 := hb51
              have hz := fun x3 x4 x6 x8 => scanN (G := G) (d := d) (C := C) (X := X) (w := w) (x1 := x1) (x2 := some (.inl ((pileZ (zK K)).length : Int))) (x3 := x3) (x4 := x4) (x6 := x6) (x8 := x8) HR hfin (pileZ (zK K)).length (by omega) no12
              generalize (pileZ (zK K)).length = by1 at *
              generalize (opsZ (zK K)).length = by2 at *
              simp only [b01, Bool.false_eq_true, if_false]
              (repeat' (first | with_reducible assumption | (refine ct ?_) | (refine iw3 ?_) | (refine And.intro ?_ ?_) | (with_reducible intro _) | (simp [wp_eq, wpE, mk_X11_parse, mg, mc_X11_parse, lget, lset, popN, cats, rcv, entL, isArr, kC_s, kC_n, st1, st2, st3, st4, st5, st6, st7, st8, st9, st10, st11, st12, st13, st14, st15, st16, st17, st18, st19, st20, st21, st22, st23, st24, st25, st26, st27, st28, st29, st30, st31, st32, st33, st34, st35, st36, st37, st38, st39, st40, st41, st42, st43, st44, st45, st46, st47, st48, st49, st50, st51, st52, st53, st54, st55, st56, st57, st58, st59, st60, st61, st62, st63, st64, st65, st66, st67, st68, st69, st70, st71, st72, st73, st74, st75, st76, st77, st78, st79, st80, st81, st82, st83, st84, st85, st86, st87, st88, st89, st90, st91, R0, R_pile, R_operands, c16, hwi, hwi2, hw, hd0, k3, b01, inR]))) <;> (try (first | omega | exact hz))
              all_goals first | omega | exact hz _ _ _ _
            · rw [if_neg (by simp [ho0])] at hC
              simp only [if_true, beq_self_eq_true, Bool.not_true] at hC
              have hzn : ¬ (zK K).1 = [] := fun q => by have := hz.1; rw [q] at this; simp at this; omega
              have es : shk (zK K) (3, 0, 0, 0) = shC (zK K) := by unfold shk; rw [if_neg (by simp), if_neg (by simp), if_pos rfl]
              have hcl := fun x6 x7 x8 => pCl (G := G) (d := d) (C := C) (X := X) (x1 := x1) (x6 := x6) (x7 := x7) (x8 := x8) (w := w) (by omega) hce hk0 hzn HR HN HL HO (by omega) hzl (by omega) (fun h' N' x7 x8 q1 q2 q3 q4 q5 => by
                have hn := nxt (3, 0, 0, 0) (w + 1) (o - 1) false h' N' x6 x7 x8 (by rw [zK_app]; exact okz_3 (t := (3, 0, 0, 0)) hz (by simp) (fun _ => ho0)) (chJ_sub q1 (by simp [sPP, sPR])) (by rw [nwK_app, if_neg (by simp), List.append_nil]; exact q2) (by rw [es]; exact q3) (by rw [es]; exact q4) (by rw [es]; omega) (by omega) (by omega) (by omega) (by rw [(chQ q1 (fun _ z => z)).1, f36]; simp) (by rw [(chQ q1 (fun _ z => z)).2, f37]; simp) hC
                rw [es] at hn
                exact hn)
              have hpz := pileZ_len (zK K)
              have ex12 : ∃ i, i < (pileZ (zK K)).length ∧ hvi h (r + 23) i = 12 := by
                unfold pileZ at HL ⊢
                cases hq : (zK K).1 with
                | nil => exact absurd hq hzn
                | cons V Ls =>
                  rw [hq] at HL
                  simp only [pileL] at HL ⊢
                  refine ⟨(pileL Ls ++ pileV V).length, by simp only [List.length_append, List.length_cons, List.length_nil]; omega, ?_⟩
                  have := HL (pileL Ls ++ pileV V).length 12 (by rw [List.getElem?_append_left (by simp), ← List.append_assoc, List.getElem?_append_right (by simp)]; simp)
                  simpa using this
              have hbz : N + (opsZ (zK K)).length + pnd (zK K) ≤ 50 := hb51
              have hz := fun x6 x8 => scanY (G := G) (d := d) (C := C) (X := X) (w := w) (x1 := x1) (x2 := some (.inl ((pileZ (zK K)).length : Int))) (x3 := some (.inl ((opsZ (zK K)).length : Int))) (x4 := some (.inl 0)) (x6 := x6) (x8 := x8) HR (fun x7 => hcl x6 x7 x8) (pileZ (zK K)).length (by omega) ex12
              generalize (pileZ (zK K)).length = by1 at *
              generalize (opsZ (zK K)).length = by2 at *
              simp only [b01, Bool.false_eq_true, if_false]
              (repeat' (first | with_reducible assumption | (refine ct ?_) | (refine iw3 ?_) | (refine And.intro ?_ ?_) | (with_reducible intro _) | (simp [wp_eq, wpE, mk_X11_parse, mg, mc_X11_parse, lget, lset, popN, cats, rcv, entL, isArr, kC_s, kC_n, st1, st2, st3, st4, st5, st6, st7, st8, st9, st10, st11, st12, st13, st14, st15, st16, st17, st18, st19, st20, st21, st22, st23, st24, st25, st26, st27, st28, st29, st30, st31, st32, st33, st34, st35, st36, st37, st38, st39, st40, st41, st42, st43, st44, st45, st46, st47, st48, st49, st50, st51, st52, st53, st54, st55, st56, st57, st58, st59, st60, st61, st62, st63, st64, st65, st66, st67, st68, st69, st70, st71, st72, st73, st74, st75, st76, st77, st78, st79, st80, st81, st82, st83, st84, st85, st86, st87, st88, st89, st90, st91, R0, R_pile, R_operands, c16, hwi, hwi2, hw, hd0, k3, b01, inR]))) <;> (try (first | omega | exact hz))
              all_goals first | omega | exact hz _ _
          · by_cases k4 : kdOf (wd L w) = 4
            · rw [k4, if_neg (by simp)] at hC
              simp only [Nat.reduceEqDiff, if_false, Nat.sub_zero] at hC
              have es : shk (zK K) (4, 0, 0, 0) = shA (zK K) := by unfold shk; rw [if_neg (by simp), if_neg (by simp), if_neg (by simp), if_pos rfl]
              have hz402 : ∀ x6, wp G d 127 100402 [some (.inr (.inl (some r))), x1, some (.inl ((pileZ (zK K)).length : Int)), some (.inl ((opsZ (zK K)).length : Int)), some (.inl 0), some (.inl (w : Int)), x6, some (.inl 0), some (.inl 1)] [] h 0 0 C X := fun x6 => ao false true x6 (fun h' N' x7 x8 q1 q2 q3 q4 q5 => by
                simp only [Bool.false_eq_true, if_false, Bool.or_true, if_true] at q3 q4 q5 ⊢
                have hn := nxt (4, 0, 0, 0) (w + 1) o true h' N' x6 x7 x8 (by rw [zK_app]; exact okz_3 (t := (4, 0, 0, 0)) hz (by simp) (fun q => by simp at q)) (chJ_sub q1 (by simp [sPP, sPR])) (by rw [nwK_app, if_neg (by simp), List.append_nil]; exact q2) (by rw [es]; exact q3) (by rw [es]; exact q4) (by rw [es]; omega) (by omega) (by omega) (by omega) (by rw [(chQ q1 (fun _ z => z)).1, f36]; simp) (by rw [(chQ q1 (fun _ z => z)).2, f37]; simp) hC
                rw [es] at hn
                exact hn)
              have hz := hz402
              generalize (pileZ (zK K)).length = by1 at *
              generalize (opsZ (zK K)).length = by2 at *
              simp only [b01, Bool.false_eq_true, if_false]
              (repeat' (first | with_reducible assumption | (refine ct ?_) | (refine iw3 ?_) | (refine iw5 ?_) | (refine iw4 ?_) | (refine And.intro ?_ ?_) | (with_reducible intro _) | (simp [wp_eq, wpE, mk_X11_parse, mg, mc_X11_parse, lget, lset, popN, cats, rcv, entL, isArr, kC_s, kC_n, st1, st2, st3, st4, st5, st6, st7, st8, st9, st10, st11, st12, st13, st14, st15, st16, st17, st18, st19, st20, st21, st22, st23, st24, st25, st26, st27, st28, st29, st30, st31, st32, st33, st34, st35, st36, st37, st38, st39, st40, st41, st42, st43, st44, st45, st46, st47, st48, st49, st50, st51, st52, st53, st54, st55, st56, st57, st58, st59, st60, st61, st62, st63, st64, st65, st66, st67, st68, st69, st70, st71, st72, st73, st74, st75, st76, st77, st78, st79, st80, st81, st82, st83, st84, st85, st86, st87, st88, st89, st90, st91, R0, R_pile, R_operands, c16, hwi, hwi2, hw, hd0, k4, b01, inR]))) <;> (try (first | omega | exact hz))
              all_goals first | omega | exact hz _
            · by_cases k5 : kdOf (wd L w) = 5
              · rw [k5, if_neg (by simp)] at hC
                simp only [Nat.reduceEqDiff, if_false, Nat.sub_zero] at hC
                have es : shk (zK K) (5, 0, 0, 0) = shO (zK K) := by unfold shk; rw [if_neg (by simp), if_neg (by simp), if_neg (by simp), if_neg (by simp), if_pos rfl]
                have hz402 : ∀ x6, wp G d 127 100402 [some (.inr (.inl (some r))), x1, some (.inl ((pileZ (zK K)).length : Int)), some (.inl ((opsZ (zK K)).length : Int)), some (.inl 0), some (.inl (w : Int)), x6, some (.inl 1), some (.inl 0)] [] h 0 0 C X := fun x6 => ao true false x6 (fun h' N' x7 x8 q1 q2 q3 q4 q5 => by
                  simp only [if_true, Bool.or_false] at q3 q4 q5 ⊢
                  have hn := nxt (5, 0, 0, 0) (w + 1) o true h' N' x6 x7 x8 (by rw [zK_app]; exact okz_3 (t := (5, 0, 0, 0)) hz (by simp) (fun q => by simp at q)) (chJ_sub q1 (by simp [sPP, sPR])) (by rw [nwK_app, if_neg (by simp), List.append_nil]; exact q2) (by rw [es]; exact q3) (by rw [es]; exact q4) (by rw [es]; omega) (by omega) (by omega) (by omega) (by rw [(chQ q1 (fun _ z => z)).1, f36]; simp) (by rw [(chQ q1 (fun _ z => z)).2, f37]; simp) hC
                  rw [es] at hn
                  exact hn)
                have hz := hz402
                generalize (pileZ (zK K)).length = by1 at *
                generalize (opsZ (zK K)).length = by2 at *
                simp only [b01, Bool.false_eq_true, if_false]
                (repeat' (first | with_reducible assumption | (refine ct ?_) | (refine iw3 ?_) | (refine iw5 ?_) | (refine iw4 ?_) | (refine And.intro ?_ ?_) | (with_reducible intro _) | (simp [wp_eq, wpE, mk_X11_parse, mg, mc_X11_parse, lget, lset, popN, cats, rcv, entL, isArr, kC_s, kC_n, st1, st2, st3, st4, st5, st6, st7, st8, st9, st10, st11, st12, st13, st14, st15, st16, st17, st18, st19, st20, st21, st22, st23, st24, st25, st26, st27, st28, st29, st30, st31, st32, st33, st34, st35, st36, st37, st38, st39, st40, st41, st42, st43, st44, st45, st46, st47, st48, st49, st50, st51, st52, st53, st54, st55, st56, st57, st58, st59, st60, st61, st62, st63, st64, st65, st66, st67, st68, st69, st70, st71, st72, st73, st74, st75, st76, st77, st78, st79, st80, st81, st82, st83, st84, st85, st86, st87, st88, st89, st90, st91, R0, R_pile, R_operands, c16, hwi, hwi2, hw, hd0, k5, b01, inR]))) <;> (try (first | omega | exact hz))
                all_goals first | omega | exact hz _
              · have k0 : kdOf (wd L w) = 0 := by omega
                rw [if_pos (Or.inr (Or.inl k0))] at hC
                have hz := hC h chJ_refl (fun q => by simp at q)
                generalize (pileZ (zK K)).length = by1 at *
                generalize (opsZ (zK K)).length = by2 at *
                simp only [b01, Bool.false_eq_true, if_false]
                (repeat' (first | with_reducible assumption | (refine ct ?_) | (refine iw3 ?_) | (refine iw5 ?_) | (refine iw4 ?_) | (refine iw1 ?_) | (refine iw2 ?_) | (refine And.intro ?_ ?_) | (with_reducible intro _) | (simp [wp_eq, wpE, mk_X11_parse, mg, mc_X11_parse, lget, lset, popN, cats, rcv, entL, isArr, kC_s, kC_n, st1, st2, st3, st4, st5, st6, st7, st8, st9, st10, st11, st12, st13, st14, st15, st16, st17, st18, st19, st20, st21, st22, st23, st24, st25, st26, st27, st28, st29, st30, st31, st32, st33, st34, st35, st36, st37, st38, st39, st40, st41, st42, st43, st44, st45, st46, st47, st48, st49, st50, st51, st52, st53, st54, st55, st56, st57, st58, st59, st60, st61, st62, st63, st64, st65, st66, st67, st68, st69, st70, st71, st72, st73, st74, st75, st76, st77, st78, st79, st80, st81, st82, st83, st84, st85, st86, st87, st88, st89, st90, st91, R0, R_pile, R_operands, c16, hwi, hwi2, hw, hd0, k0, b01, inR]))) <;> (try (first | omega | exact hz))
    · rw [if_pos hw] at hC
      have hwe : w = (wds L).length := by omega
      have c16 := HW.1
      have R0 := HR.1; have R_pile := rn_pile HR; have R_operands := rn_operands HR
      have hwi : ((wds L).length : Int) ≤ (w : Int) := by omega
      rw [wp_hd]
      cases wn with
      | true =>
        rw [if_pos (Or.inl rfl)] at hC
        have hz := hC h chJ_refl (fun q => by simp at q)
        generalize (pileZ (zK K)).length = by1 at *
        generalize (opsZ (zK K)).length = by2 at *
        simp only [b01, if_true]
        (repeat' (first | with_reducible assumption | (refine And.intro ?_ ?_) | (with_reducible intro _) | (simp [wp_eq, wpE, mk_X11_parse, mg, mc_X11_parse, lget, lset, popN, cats, rcv, entL, isArr, kC_s, kC_n, st1, st2, st3, st4, st5, st6, st7, st8, st9, st10, st11, st12, st13, st14, st15, st16, st17, st18, st19, st20, st21, st22, st23, st24, st25, st26, st27, st28, st29, st30, st31, st32, st33, st34, st35, st36, st37, st38, st39, st40, st41, st42, st43, st44, st45, st46, st47, st48, st49, st50, st51, st52, st53, st54, st55, st56, st57, st58, st59, st60, st61, st62, st63, st64, st65, st66, st67, st68, st69, st70, st71, st72, st73, st74, st75, st76, st77, st78, st79, st80, st81, st82, st83, st84, st85, st86, st87, st88, st89, st90, st91, R0, R_pile, R_operands, c16, hwi]))) <;> (try (first | omega | exact hz))
      | false =>
        obtain ⟨e, hce⟩ : ∃ e, (zK K).2.2 = some e := by
          cases hq : (zK K).2.2 with
          | none => have := hz.2.1; rw [hq] at this; simp at this
          | some e => exact ⟨e, rfl⟩
        have hk0 : (zK K).2.1.2.2 = 0 := hz.2.2 (by rw [hce]; simp)
        have hz := fun x4 x5 => pEnd (G := G) (d := d) (C := C) (X := X) (L := L) (x1 := x1) (x4 := x4) (x5 := x5) (x6 := x6) (x7 := x7) (x8 := x8) (by omega) hce hk0 HR c16 HN HL HO (by omega) hzl (fun hne h' q => by
          have ho : 0 < o := by
            have := hz.1
            cases hq : (zK K).1 with
            | nil => exact absurd hq hne
            | cons V Ls => rw [hq] at this; simp at this; omega
          rw [if_pos (Or.inr ho)] at hC
          exact hC h' (chJ_sub q (by simp [sPP, sPR])) (fun q => by simp at q)) (fun hnil h' N' p q1 q2 q3 q4 q5 => by
          have ho : o = 0 := by have := hz.1; rw [hnil] at this; simpa using this.symm
          rw [if_neg (by simp [ho])] at hC
          refine hC _ (chJ_trans (chJ_sub q1 (by simp [sAP, sPR])) (chJ_set (by simp [sR, sPR]))) (fun _ => ⟨N', p, NW_ch (l := [135]) (chJ_set (by simp [sR])) (by simp) q2, q3, q4, by rw [hvi_I, if_pos ⟨rfl, rfl⟩], PH_35 (by unfold rtK; rw [hce]; exact q5), ?_, ?_⟩)
          · rw [hvi_I, if_neg (by omega), chJ_fld q1 (by simp [sAP]) (by simp [sAP])]; exact f36
          · rw [hvi_I, if_neg (by omega), chJ_fld q1 (by simp [sAP]) (by simp [sAP])]; exact f37)
        generalize (pileZ (zK K)).length = by1 at *
        generalize (opsZ (zK K)).length = by2 at *
        simp only [b01, Bool.false_eq_true, if_false]
        (repeat' (first | with_reducible assumption | (refine And.intro ?_ ?_) | (with_reducible intro _) | (simp [wp_eq, wpE, mk_X11_parse, mg, mc_X11_parse, lget, lset, popN, cats, rcv, entL, isArr, kC_s, kC_n, st1, st2, st3, st4, st5, st6, st7, st8, st9, st10, st11, st12, st13, st14, st15, st16, st17, st18, st19, st20, st21, st22, st23, st24, st25, st26, st27, st28, st29, st30, st31, st32, st33, st34, st35, st36, st37, st38, st39, st40, st41, st42, st43, st44, st45, st46, st47, st48, st49, st50, st51, st52, st53, st54, st55, st56, st57, st58, st59, st60, st61, st62, st63, st64, st65, st66, st67, st68, st69, st70, st71, st72, st73, st74, st75, st76, st77, st78, st79, st80, st81, st82, st83, st84, st85, st86, st87, st88, st89, st90, st91, R0, R_pile, R_operands, c16, hwi]))) <;> (try (first | omega | exact hz))
        all_goals first | omega | exact hz _ _
