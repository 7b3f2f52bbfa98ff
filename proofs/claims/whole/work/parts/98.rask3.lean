/-- what stands still through a search -/
def RG (r : Nat) (h : mH) (L : List Int) (T : aT) (Es : Nat → List aE) (here : Nat) (pr : Int) (K : List aK) (N p0 : Nat) : Prop := RX r h L T Es here pr ∧ (∀ q, q < N → hvi h (r + 19) q = 5 → hvi h (r + 22) q = dyW T here L (hvi h (r + 20) q).toNat) ∧ hvi h r 35 = (p0 : Int) ∧ PH r h (rtK K) p0 ∧ (p0 < N ∧ N ≤ 51) ∧ hvi h r 36 = b01 (K.any (fun t => t.1 == 13)) ∧ hvi h r 37 = b01 (dpK K)
theorem RG_ch {r here N p0 : Nat} {h h' : mH} {L : List Int} {T : aT} {Es : Nat → List aE} {pr : Int} {K : List aK} {l : List Nat} (q : chJ (sR r l) h h') (hl : ∀ c ∈ [0, 1, 2, 3, 4, 5, 6, 7, 8, 9, 10, 11, 12, 13, 14, 15, 19, 20, 21, 22, 113, 115, 116, 135, 136, 137, 138], ¬ c ∈ l) (H : RG r h L T Es here pr K N p0) : RG r h' L T Es here pr K N p0 :=
  ⟨RX_ch q (fun c hc => hl c (by simp at hc ⊢; omega)) H.1, fun i hi h5 => by rw [chJ_row q (by omega) (hl _ (by simp))] at h5 ⊢; rw [chJ_row q (by omega) (hl _ (by simp))]; exact H.2.1 i hi h5, by rw [chJ_fld q (hl _ (by simp)) (hl _ (by simp))]; exact H.2.2.1, PH_ch q (fun c hc => hl c (by simp at hc ⊢; omega)) H.2.2.2.1, H.2.2.2.2.1, by rw [chJ_fld q (hl _ (by simp)) (hl _ (by simp))]; exact H.2.2.2.2.2.1, by rw [chJ_fld q (hl _ (by simp)) (hl _ (by simp))]; exact H.2.2.2.2.2.2⟩
def RAw (r : Nat) (h : mH) (o : List Int × Nat × Bool) : Prop := RO r h o.1 ∧ hvi h r 39 = (o.2.1 : Int) ∧ hvi h r 40 = b01 o.2.2 ∧ o.2.1 ≤ o.1.length
theorem RAw_ch {r : Nat} {h h' : mH} {o : List Int × Nat × Bool} {l : List Nat} (q : chJ (sR r l) h h') (hl : ∀ c ∈ [0, 16, 120, 139, 140], ¬ c ∈ l) (H : RAw r h o) : RAw r h' o := ⟨RO_ch q (fun c hc => hl c (by simp at hc ⊢; omega)) H.1, by rw [chJ_fld q (hl _ (by simp)) (hl _ (by simp))]; exact H.2.1, by rw [chJ_fld q (hl _ (by simp)) (hl _ (by simp))]; exact H.2.2.1, H.2.2.2⟩
theorem RA_pr {r : Nat} {h : mH} {s : aS} (H : RAw r h s.2) : RA r (hsetI h r 41 0) (false, s.2) := ⟨by rw [hvi_I, if_pos ⟨rfl, rfl⟩]; rfl, RO_ch (l := [141]) (chJ_set (by simp [sR])) (by simp) H.1, by rw [hvi_I, if_neg (by omega)]; exact H.2.1, by rw [hvi_I, if_neg (by omega)]; exact H.2.2.1, H.2.2.2⟩
theorem r_ask {G : Nat → Nat} {d r n fr nn N p0 here : Nat} {h : mH} {C : mQ} {X : mX} {L : List Int} {T : aT} {Es : Nat → List aE} {pr : Int} {K : List aK} {v : aN} {w P : List Int} {s : aS} (hd : 6 ≤ d) (E : EV L T here K pr) (hK : ∀ t ∈ K, 6 ≤ t.1 → tkO L t) (HG : RG r h L T Es here pr K N p0) (hT : T n = some v) (HQ : RQ r h P fr nn) (hw : w.length = nn) (hsg : ∀ i, i < w.length → lf w i = lf P (fr + i)) (hnn : nn ≤ 14) (hfn : fr + nn ≤ P.length) (bP : bd P) (hPl : P.length ≤ 1000) (HA : RAw r h s.2)
    (hC : ∀ h', chJ (sR r sAS) h h' → RA r h' (asN L T here K pr v w P (false, s.2)) → C none h') :
    callG (wp G) d 137 0 0 8 [.inr (.inl (some r)), .inl (n : Int)] h C X := by
  have hn := wf_lt E.1 hT
  have HR := HG.1.1
  have R0 := HR.1; have R_partKind := rn_partKind HR; have R_first := rn_first HR; have R_second := rn_second HR; have R_pile := rn_pile HR; have R_stage := rn_stage HR
  have h35 := HG.2.2.1
  have hal := rt_all hK (fun t ht => (E.2.1 t ht).1) E.2.2.1
  have q1 : chJ (sR r sAS) h (hsetI (hsetI (hsetI h r 41 0) (r + 23) 0 (p0 : Int)) (r + 25) 0 0) := chJ_trans (chJ_trans (chJ_set (by simp [sR, sAS])) (chJ_set (by simp [sR, sAS]))) (chJ_set (by simp [sR, sAS]))
  have A1 : RA r (hsetI (hsetI (hsetI h r 41 0) (r + 23) 0 (p0 : Int)) (r + 25) 0 0) (false, s.2) := RA_ch (l := [23, 25]) (chJ_trans (chJ_set (by simp [sR])) (chJ_set (by simp [sR]))) (by simp) (RA_pr HA)
  have G1 := RG_ch q1 (by simp [sAS]) HG
  have Q1 := RQ_ch q1 (by simp [sAS]) HQ
  unfold asN askM at hC
  refine cg 5 (by omega) (fun d hd => ?_)
  have hd0 : (0 < d) = True := eq_true (by omega)
  have key := askE (G := G) (d := d) (r := r) (n := n) (C := C) (X := fun _ _ => False) (Es := Es) (here := here) (fr := fr) (N := N) (by omega) hT hn ⟨E.2.2.2.2, (E.1.2.2.2.1 n v hT).2.2.2.2.2.2.2.2.2.1.2⟩ hw hsg hnn hfn bP hPl (by have := HG.2.2.2.2.1; omega) (rtK K) p0 0 (hsetI (hsetI (hsetI h r 41 0) (r + 23) 0 (p0 : Int)) (r + 25) 0 0) (false, s.2) (some (.inl 0)) none none none none HG.2.2.2.2.1.1 (by have := HG.2.2.2.2.1; omega) G1.2.2.2.1 hal ⟨G1.1, Q1, G1.2.1⟩ A1 (by rw [hvi_I, if_neg (by omega), hvi_I, if_pos ⟨rfl, rfl⟩]) (by rw [hvi_I, if_pos ⟨rfl, rfl⟩]) (fun h2 x4 x5 x6 x7 c2 _ A2 => by
    have HR2 := RN_ch (chJ_trans q1 c2) HR
    have R02 := HR2.1
    have c3 := chJ_trans q1 c2
    have f36 : hvi h2 r 36 = b01 (K.any (fun t => t.1 == 13)) := by rw [chJ_fld c3 (by simp [sAS]) (by simp [sAS])]; exact HG.2.2.2.2.2.1
    have Q2 := RQ_ch c3 (by simp [sAS]) HQ
    cases hv : (evB (tsF L T here pr v w P) (rtK K) (false, s.2)).1 with
    | false =>
      rw [hv] at hC
      have hz : C none h2 := by
        refine hC h2 c3 ?_
        cases K.any (fun t => t.1 == 13) <;> exact A2
      rw [wp_hd]
      simp only [b01, Bool.false_eq_true, if_false]
      (repeat' (first | with_reducible assumption | (refine And.intro ?_ ?_) | (with_reducible intro _) | (simp [wp_eq, wpE, mk_X11_ask, mg, mc_X11_ask, lget, lset, popN, cats, rcv, entL, isArr, kC_s, kC_n, st1, st2, st3, st4, st5, st6, st7, st8, st9, st10, st11, st12, st13, st14, st15, st16, st17, st18, st19, st20, st21, st22, st23, st24, st25, st26, st27, st28, st29, st30, st31, st32, st33, st34, st35, st36, st37, st38, st39, st40, st41, st42, st43, st44, st45, st46, st47, st48, st49, st50, st51, st52, st53, st54, st55, st56, st57, st58, st59, st60, st61, st62, st63, st64, st65, st66, st67, st68, st69, st70, st71, st72, st73, st74, st75, st76, st77, st78, st79, st80, st81, st82, st83, st84, st85, st86, st87, st88, st89, st90, st91, R02]))) <;> (try (first | omega | exact hz))
    | true =>
      rw [hv] at hC
      cases hpr : K.any (fun t => t.1 == 13) with
      | true =>
        rw [hpr, if_pos rfl] at hC
        rw [hpr] at f36
        simp [b01] at f36
        have hz := hC h2 c3 A2
        rw [wp_hd]
        simp only [b01, if_true]
        (repeat' (first | with_reducible assumption | (refine And.intro ?_ ?_) | (with_reducible intro _) | (simp [wp_eq, wpE, mk_X11_ask, mg, mc_X11_ask, lget, lset, popN, cats, rcv, entL, isArr, kC_s, kC_n, st1, st2, st3, st4, st5, st6, st7, st8, st9, st10, st11, st12, st13, st14, st15, st16, st17, st18, st19, st20, st21, st22, st23, st24, st25, st26, st27, st28, st29, st30, st31, st32, st33, st34, st35, st36, st37, st38, st39, st40, st41, st42, st43, st44, st45, st46, st47, st48, st49, st50, st51, st52, st53, st54, st55, st56, st57, st58, st59, st60, st61, st62, st63, st64, st65, st66, st67, st68, st69, st70, st71, st72, st73, st74, st75, st76, st77, st78, st79, st80, st81, st82, st83, st84, st85, st86, st87, st88, st89, st90, st91, R02, f36]))) <;> (try (first | omega | exact hz))
      | false =>
        rw [hpr, if_neg (by simp), if_pos rfl] at hC
        rw [hpr] at f36
        simp [b01] at f36
        rw [wp_hd]
        simp only [b01, if_true]
        simp [wp_eq, wpE, mk_X11_ask, mg, mc_X11_ask, lget, lset, popN, cats, rcv, entL, isArr, kC_s, kC_n, st1, st2, st3, st4, st5, st6, st7, st8, st9, st10, st11, st12, st13, st14, st15, st16, st17, st18, st19, st20, st21, st22, st23, st24, st25, st26, st27, st28, st29, st30, st31, st32, st33, st34, st35, st36, st37, st38, st39, st40, st41, st42, st43, st44, st45, st46, st47, st48, st49, st50, st51, st52, st53, st54, st55, st56, st57, st58, st59, st60, st61, st62, st63, st64, st65, st66, st67, st68, st69, st70, st71, st72, st73, st74, st75, st76, st77, st78, st79, st80, st81, st82, st83, st84, st85, st86, st87, st88, st89, st90, st91, R02, f36, hd0]
        refine r_print (by omega) HR2 Q2.1 Q2.2.2.2 bP hPl A2 (fun zzh zz1 zz2 => ?_)
        have hz := hC zzh (chJ_trans c3 (chJ_sub zz1 (by simp [sPt, sAS]))) zz2
        (repeat' (first | with_reducible assumption | (refine And.intro ?_ ?_) | (with_reducible intro _) | (simp [wp_eq, wpE, mk_X11_ask, mg, mc_X11_ask, lget, lset, popN, cats, rcv, entL, isArr, kC_s, kC_n, st1, st2, st3, st4, st5, st6, st7, st8, st9, st10, st11, st12, st13, st14, st15, st16, st17, st18, st19, st20, st21, st22, st23, st24, st25, st26, st27, st28, st29, st30, st31, st32, st33, st34, st35, st36, st37, st38, st39, st40, st41, st42, st43, st44, st45, st46, st47, st48, st49, st50, st51, st52, st53, st54, st55, st56, st57, st58, st59, st60, st61, st62, st63, st64, st65, st66, st67, st68, st69, st70, st71, st72, st73, st74, st75, st76, st77, st78, st79, st80, st81, st82, st83, st84, st85, st86, st87, st88, st89, st90, st91]))) <;> (try (first | omega | exact hz)))
  have hz := key
  simp only [Int.natCast_zero, Int.zero_add] at hz
  generalize hg : hsetI (hsetI (hsetI h r 41 0) (r + 23) 0 (p0 : Int)) (r + 25) 0 0 = zg at *
  (repeat' (first | with_reducible assumption | (refine And.intro ?_ ?_) | (with_reducible intro _) | (simp [wp_eq, wpE, mk_X11_ask, mg, mc_X11_ask, lget, lset, popN, cats, rcv, entL, isArr, kC_s, kC_n, st1, st2, st3, st4, st5, st6, st7, st8, st9, st10, st11, st12, st13, st14, st15, st16, st17, st18, st19, st20, st21, st22, st23, st24, st25, st26, st27, st28, st29, st30, st31, st32, st33, st34, st35, st36, st37, st38, st39, st40, st41, st42, st43, st44, st45, st46, st47, st48, st49, st50, st51, st52, st53, st54, st55, st56, st57, st58, st59, st60, st61, st62, st63, st64, st65, st66, st67, st68, st69, st70, st71, st72, st73, st74, st75, st76, st77, st78, st79, st80, st81, st82, st83, st84, st85, st86, st87, st88, st89, st90, st91, R0, R_partKind, R_first, R_second, R_pile, R_stage, hg, h35, hty_I, hvi_I, hvr_I, hvl_I, hsz_I, hty_R, hvi_R, hvr_R, hvl_R, hsz_R, hty_L, hvi_L, hvr_L, hvl_L, hsz_L, hty_P, hvi_P, hvr_P, hvl_P, hsz_P, hty_C, hvi_C, hvr_C, hvl_C, hsz_C]))) <;> (try (first | omega | exact hz))
/-- what is asked does not depend on what was left out before -/
theorem evB_ind (F : aK → aS → Bool × aS) (hF : ∀ t p o, (F t (p, o)).1 = (F t (false, o)).1 ∧ (F t (p, o)).2.2 = (F t (false, o)).2.2) : ∀ (e : bT) (p : Bool) (o : List Int × Nat × Bool), (evB F e (p, o)).1 = (evB F e (false, o)).1 ∧ (evB F e (p, o)).2.2 = (evB F e (false, o)).2.2 := by
  intro e
  induction e with
  | num z => intro p o; exact ⟨rfl, rfl⟩
  | natCast z => intro p o; exact ⟨rfl, rfl⟩
  | intCast z => intro p o; exact ⟨rfl, rfl⟩
  | var z => intro p o; exact ⟨rfl, rfl⟩
  | pow x z ih => intro p o; exact ⟨rfl, rfl⟩
  | sub x y _ _ => intro p o; exact hF _ p o
  | neg x ih =>
    intro p o
    have h1 := ih p o
    simp only [evB]
    exact ⟨by rw [h1.1], h1.2⟩
  | mul x y ihx ihy =>
    intro p o
    obtain ⟨h1, h2⟩ := ihx p o
    simp only [evB]
    rw [h1]
    cases hb : (evB F x (false, o)).1 with
    | false => simp only [cond_false]; exact ⟨by trivial, h2⟩
    | true =>
      simp only [cond_true]
      have e1 : (evB F x (p, o)).2 = ((evB F x (p, o)).2.1, (evB F x (false, o)).2.2) := by rw [← h2]
      have e2 : (evB F x (false, o)).2 = ((evB F x (false, o)).2.1, (evB F x (false, o)).2.2) := rfl
      rw [e1]
      have a := ihy (evB F x (p, o)).2.1 (evB F x (false, o)).2.2
      have b := ihy (evB F x (false, o)).2.1 (evB F x (false, o)).2.2
      exact ⟨a.1.trans b.1.symm, a.2.trans b.2.symm⟩
  | add x y ihx ihy =>
    intro p o
    obtain ⟨h1, h2⟩ := ihx p o
    simp only [evB]
    rw [h1]
    cases hb : (evB F x (false, o)).1 with
    | true => simp only [cond_true]; exact ⟨by trivial, h2⟩
    | false =>
      simp only [cond_false]
      have e1 : (evB F x (p, o)).2 = ((evB F x (p, o)).2.1, (evB F x (false, o)).2.2) := by rw [← h2]
      rw [e1]
      have a := ihy (evB F x (p, o)).2.1 (evB F x (false, o)).2.2
      have b := ihy (evB F x (false, o)).2.1 (evB F x (false, o)).2.2
      exact ⟨a.1.trans b.1.symm, a.2.trans b.2.symm⟩
theorem prt_ind (P : List Int) (p q : Bool) (o : List Int × Nat × Bool) : (prt P (p, o)).2 = (prt P (q, o)).2 := by
  unfold prt
  by_cases h1 : o.2.2 = true
  · rw [if_pos h1, if_pos h1]
  · rw [if_neg h1, if_neg h1]
    by_cases h2 : o.1.length + P.length + 1 ≤ 1500
    · rw [if_pos h2, if_pos h2]
    · rw [if_neg h2, if_neg h2]
theorem tsF_ind {L : List Int} {T : aT} {here : Nat} {pr : Int} {v : aN} {w P : List Int} : ∀ t p o, (tsF L T here pr v w P t (p, o)).1 = (tsF L T here pr v w P t (false, o)).1 ∧ (tsF L T here pr v w P t (p, o)).2.2 = (tsF L T here pr v w P t (false, o)).2.2 := by
  intro t p o
  unfold tsF
  by_cases k6 : t.1 = 6
  · rw [if_pos k6, if_pos k6]; exact ⟨rfl, rfl⟩
  · rw [if_neg k6, if_neg k6]
    by_cases k7 : t.1 = 7
    · rw [if_pos k7, if_pos k7]; exact ⟨rfl, rfl⟩
    · rw [if_neg k7, if_neg k7]
      by_cases k8 : t.1 = 8
      · rw [if_pos k8, if_pos k8]; exact ⟨rfl, rfl⟩
      · rw [if_neg k8, if_neg k8]
        by_cases k9 : t.1 = 9
        · rw [if_pos k9, if_pos k9]; exact ⟨rfl, rfl⟩
        · rw [if_neg k9, if_neg k9]
          by_cases k10 : t.1 = 10
          · rw [if_pos k10, if_pos k10]; exact ⟨rfl, rfl⟩
          · rw [if_neg k10, if_neg k10]
            by_cases k11 : t.1 = 11
            · rw [if_pos k11, if_pos k11]; exact ⟨rfl, rfl⟩
            · rw [if_neg k11, if_neg k11]
              by_cases k12 : t.1 = 12
              · rw [if_pos k12, if_pos k12]; exact ⟨rfl, rfl⟩
              · rw [if_neg k12, if_neg k12]
                by_cases k13 : t.1 = 13
                · rw [if_pos k13, if_pos k13]; exact ⟨rfl, prt_ind P p false o⟩
                · rw [if_neg k13, if_neg k13]; exact ⟨rfl, rfl⟩
theorem asN_ind {L : List Int} {T : aT} {here : Nat} {K : List aK} {pr : Int} {v : aN} {w P : List Int} (p : Bool) (o : List Int × Nat × Bool) : (asN L T here K pr v w P (p, o)).2 = (asN L T here K pr v w P (false, o)).2 := by
  unfold asN askM
  obtain ⟨h1, h2⟩ := evB_ind (tsF L T here pr v w P) tsF_ind (rtK K) p o
  rw [h1]
  by_cases q1 : K.any (fun t => t.1 == 13) = true
  · rw [if_pos q1, if_pos q1]; exact h2
  · rw [if_neg q1, if_neg q1]
    by_cases q2 : (evB (tsF L T here pr v w P) (rtK K) (false, o)).1 = true
    · rw [if_pos q2, if_pos q2]
      have e1 : (evB (tsF L T here pr v w P) (rtK K) (p, o)).2 = ((evB (tsF L T here pr v w P) (rtK K) (p, o)).2.1, (evB (tsF L T here pr v w P) (rtK K) (false, o)).2.2) := by rw [← h2]
      rw [e1]
      exact prt_ind P _ _ _
    · rw [if_neg q2, if_neg q2]; exact h2
