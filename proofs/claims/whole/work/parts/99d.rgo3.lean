theorem gt_57 {G : Nat → Nat} {d r N p0 here D n fr : Nat} {h : mH} {C : mQ} {X : mX} {L : List Int} {T : aT} {Es : Nat → List aE} {pr : Int} {K : List aK} {v : aN} {P : List Int} {u : aU} {A B : List aE} {zl : Int} {x1 x3 x4 x5 x6 : Option mV} (hd : 8 ≤ d) (E : EV L T here K pr) (HG : RG r h L T Es here pr K N p0) (hT : T n = some v) (hk : nK v = 0) (hAB : A ++ B = nE v) (hls : LSl n (Es n) A zl) (HU : RU r h u) (hF : FR r h D n zl P.length fr) (hD : D < 58)
    (hfin : (u.1.2.2.2 = true ∨ B = []) → ∀ x5, wp G d 139 98 [some (.inr (.inl (some r))), x1, some (.inl (D : Int)), x3, some (.inl (n : Int)), x5, x6] [.inl (-1)] (hsetI h r 43 (P.length : Int)) 0 0 C X)
    (hnx : u.1.2.2.2 = false → ∀ p B', B = p :: B' → ∀ j, (Es n)[j]? = some p → ∀ x5, wp G d 139 98 [some (.inr (.inl (some r))), x1, some (.inl (D : Int)), x3, some (.inl (n : Int)), x5, x6] [.inl ((12 * n + j : Nat) : Int)] (hsetI h r 43 (P.length : Int)) 0 0 C X) :
    wp G d 139 57 [some (.inr (.inl (some r))), x1, some (.inl (D : Int)), x3, x4, x5, x6] [] h 0 0 C X := by
  have hd0 : (0 < d) = True := eq_true (by omega)
  have HR := HG.1.1
  have hn := wf_lt E.1 hT
  have R0 := HR.1; have R_targets := rn_targets HR; have R_nameSizes := rn_nameSizes HR; have R_names := rn_names HR; have R_path := rn_path HR; have R_dirs := rn_dirs HR; have R_lasts := rn_lasts HR; have R_lengths := rn_lengths HR; have R_starts := rn_starts HR
  obtain ⟨F1, F2, F3, F4⟩ := hF
  obtain ⟨HA, c21⟩ := HU
  have q1 : chJ (sR r [143]) h (hsetI h r 43 (P.length : Int)) := chJ_set (by simp [sR])
  have G1 := RG_ch q1 (by simp) HG
  have HR1 := G1.1.1
  have R01 := HR1.1
  have f40 : hvi (hsetI h r 43 (P.length : Int)) r 40 = b01 u.1.2.2.2 := by rw [chJ_fld q1 (by simp) (by simp)]; exact HA.2.2.1
  have f28 : hvi (hsetI h r 43 (P.length : Int)) (r + 28) D = zl := by rw [chJ_row q1 (by omega) (by simp)]; exact F2
  have L28 := rn_lasts HR1
  have hRT := (G1.1.2.2.2.1.2.2 n v hn hT).2.2.2.1 hk
  have hRE := hRT.2.2.1
  have hPm := hRT.2.2.2
  rw [← hAB] at hPm
  have hs := (E.1.2.2.2.1 n v hT).2.2.2.2.1
  rw [← hAB] at hs
  cases hfu : u.1.2.2.2 with
  | true =>
    have hz := hfin (Or.inl hfu)
    rw [hfu] at f40
    simp [b01] at f40
    generalize hh1 : hsetI h r 43 (P.length : Int) = h1 at *
    (repeat' (first | with_reducible assumption | (refine And.intro ?_ ?_) | (with_reducible intro _) | (simp [wp_ne 98, wpE, mk_X11_goThrough, mg, mc_X11_goThrough, lget, lset, popN, cats, rcv, entL, isArr, kC_s, kC_n, st1, st2, st3, st4, st5, st6, st7, st8, st9, st10, st11, st12, st13, st14, st15, st16, st17, st18, st19, st20, st21, st22, st23, st24, st25, st26, st27, st28, st29, st30, st31, st32, st33, st34, st35, st36, st37, st38, st39, st40, st41, st42, st43, st44, st45, st46, st47, st48, st49, st50, st51, st52, st53, st54, st55, st56, st57, st58, st59, st60, st61, st62, st63, st64, st65, st66, st67, st68, st69, st70, st71, st72, st73, st74, st75, st76, st77, st78, st79, st80, st81, st82, st83, st84, st85, st86, st87, st88, st89, st90, st91, R0, R_targets, R_nameSizes, R_names, R_path, R_dirs, R_lasts, R_lengths, R_starts, hh1, F1, F3, f40, R01, hty_I, hvi_I, hvr_I, hvl_I, hsz_I, hty_R, hvi_R, hvr_R, hvl_R, hsz_R, hty_L, hvi_L, hvr_L, hvl_L, hsz_L, hty_P, hvi_P, hvr_P, hvl_P, hsz_P, hty_C, hvi_C, hvr_C, hvl_C, hsz_C]))) <;> (try (first | omega | exact hz))
    all_goals exact hz _
  | false =>
    have hcn : ∀ {C : mQ} {X : mX}, (B = [] → C (some (.inl (-1))) (hsetI h r 43 (P.length : Int))) → (∀ p B', B = p :: B' → ∀ j, (Es n)[j]? = some p → C (some (.inl ((12 * n + j : Nat) : Int))) (hsetI h r 43 (P.length : Int))) → callG (wp G) d 138 0 0 6 [.inr (.inl (some r)), .inl (n : Int), .inl zl] (hsetI h r 43 (P.length : Int)) C X := fun {C X} z0 z1 => r_nextName (by omega) hn HR1 hRE hPm hs hls z0 z1
    rw [hfu] at f40
    simp [b01] at f40
    have hz0 := hfin
    have hz1 := hnx hfu
    generalize hh1 : hsetI h r 43 (P.length : Int) = h1 at *
    simp [wp_ne 98, wpE, mk_X11_goThrough, mg, mc_X11_goThrough, lget, lset, popN, cats, rcv, entL, isArr, kC_s, kC_n, st1, st2, st3, st4, st5, st6, st7, st8, st9, st10, st11, st12, st13, st14, st15, st16, st17, st18, st19, st20, st21, st22, st23, st24, st25, st26, st27, st28, st29, st30, st31, st32, st33, st34, st35, st36, st37, st38, st39, st40, st41, st42, st43, st44, st45, st46, st47, st48, st49, st50, st51, st52, st53, st54, st55, st56, st57, st58, st59, st60, st61, st62, st63, st64, st65, st66, st67, st68, st69, st70, st71, st72, st73, st74, st75, st76, st77, st78, st79, st80, st81, st82, st83, st84, st85, st86, st87, st88, st89, st90, st91, R0, R_dirs, R_lengths, hh1, F1, F3, f40, R01, L28, f28, hd0, hty_I, hvi_I, hvr_I, hvl_I, hsz_I, hty_R, hvi_R, hvr_R, hvl_R, hsz_R, hty_L, hvi_L, hvr_L, hvl_L, hsz_L, hty_P, hvi_P, hvr_P, hvl_P, hsz_P, hty_C, hvi_C, hvr_C, hvl_C, hsz_C, show (D : Int) < 60 by omega]
    refine hcn (fun hB => ?_) (fun p B' hB j hj => ?_)
    · have hz := hz0 (Or.inr hB)
      (repeat' (first | with_reducible assumption | (refine And.intro ?_ ?_) | (with_reducible intro _) | (simp [wp_ne 98, wpE, mk_X11_goThrough, mg, mc_X11_goThrough, lget, lset, popN, cats, rcv, entL, isArr, kC_s, kC_n, st1, st2, st3, st4, st5, st6, st7, st8, st9, st10, st11, st12, st13, st14, st15, st16, st17, st18, st19, st20, st21, st22, st23, st24, st25, st26, st27, st28, st29, st30, st31, st32, st33, st34, st35, st36, st37, st38, st39, st40, st41, st42, st43, st44, st45, st46, st47, st48, st49, st50, st51, st52, st53, st54, st55, st56, st57, st58, st59, st60, st61, st62, st63, st64, st65, st66, st67, st68, st69, st70, st71, st72, st73, st74, st75, st76, st77, st78, st79, st80, st81, st82, st83, st84, st85, st86, st87, st88, st89, st90, st91]))) <;> (try (first | omega | exact hz))
      all_goals exact hz _
    · have hz := hz1 p B' hB j hj
      (repeat' (first | with_reducible assumption | (refine And.intro ?_ ?_) | (with_reducible intro _) | (simp [wp_ne 98, wpE, mk_X11_goThrough, mg, mc_X11_goThrough, lget, lset, popN, cats, rcv, entL, isArr, kC_s, kC_n, st1, st2, st3, st4, st5, st6, st7, st8, st9, st10, st11, st12, st13, st14, st15, st16, st17, st18, st19, st20, st21, st22, st23, st24, st25, st26, st27, st28, st29, st30, st31, st32, st33, st34, st35, st36, st37, st38, st39, st40, st41, st42, st43, st44, st45, st46, st47, st48, st49, st50, st51, st52, st53, st54, st55, st56, st57, st58, st59, st60, st61, st62, st63, st64, st65, st66, st67, st68, st69, st70, st71, st72, st73, st74, st75, st76, st77, st78, st79, st80, st81, st82, st83, st84, st85, st86, st87, st88, st89, st90, st91, -Int.natCast_add]))) <;> (try (first | omega | exact hz))
      all_goals exact hz _
theorem ro_sl {h : mH} {a : Nat} {P s : List Int} (H : ro h a 0 (sl P ++ s)) : ro h a 0 P := by
  have h1 := ro_pre H
  unfold sl at h1
  by_cases h47 : lf P (P.length - 1) = 47
  · rw [if_pos h47] at h1; exact h1
  · rw [if_neg h47] at h1; exact ro_pre h1
theorem gt_main {G : Nat → Nat} {d r N p0 here : Nat} {C : mQ} {X : mX} {L : List Int} {T : aT} {Es : Nat → List aE} {pr : Int} {K : List aK} {ρ : Nat → Nat} {x1 : Option mV} (hd : 8 ≤ d) (E : EV L T here K pr) (hK : ∀ t ∈ K, 6 ≤ t.1 → tkO L t) (hρ : ∀ n v, T n = some v → nK v = 0 → ¬ n = 0 → ρ (nA v) < ρ n) :
    ∀ (f : Nat) (B : List aE) (D n : Nat) (v : aN) (w P : List Int) (fr : Nat) (zl : Int) (A : List aE) (Anc : List Nat) (u : aU) (h : mH) (x3 x4 x5 x6 : Option mV), f + D = 47 → T n = some v → nK v = 0 → A ++ B = nE v → LSl n (Es n) A zl → Anc.Nodup → Anc.length = D + 1 → (∀ a ∈ Anc, a < 48 ∧ tK T a = 0 ∧ ρ a ≤ ρ n) → RG r h L T Es here pr K N p0 → RU r h u → 0 ≤ u.2 ∧ u.2 + (wtE T B : Int) ≤ 1000 → ro h (r + 26) 0 P → bd P → 1 ≤ P.length → P.length ≤ 100 + 15 * D → (∀ i, i < w.length → lf w i = lf P (fr + i)) → w.length ≤ 14 → fr + w.length ≤ P.length → FR r h D n zl P.length fr → (D = 0 → hvi h r 53 = ((fr + w.length : Nat) : Int)) → (0 < D → fr + w.length = P.length) →
    (∀ h', chJ (sR r sGT) h h' → lowS r D h h' → ro h' (r + 26) 0 P → RU r h' (vs3 L T here K pr v w P (fld (fun n w P u => vis L T here K pr f n w P u) (sl P) B u)) → (D = 0 → C none h') ∧ (0 < D → ∀ x4 x5 x6, wp G d 139 100042 [some (.inr (.inl (some r))), x1, some (.inl (D : Int)), some (.inl 0), x4, x5, x6] [] h' 0 0 C X)) →
    wp G d 139 57 [some (.inr (.inl (some r))), x1, some (.inl (D : Int)), x3, x4, x5, x6] [] h 0 0 C X := by
  have hd0 : (0 < d) = True := eq_true (by omega)
  -- a child stands apart from all above it
  have apart : ∀ (n : Nat) (v : aN) (p : aE) (Anc : List Nat), T n = some v → p ∈ nE v → (∀ a ∈ Anc, a < 48 ∧ tK T a = 0 ∧ ρ a ≤ ρ n) → ¬ p.2 ∈ Anc ∧ p.2 < 48 ∧ ∃ v', T p.2 = some v' := by
    intro n v p Anc hT hp hanc
    obtain ⟨w1, w2, w3⟩ := (E.1.2.2.2.1 n v hT).2.2.2.2.2.2.1 p hp
    cases hT' : T p.2 with
    | none => exact absurd hT' w3
    | some v' =>
      refine ⟨fun q => ?_, wf_lt E.1 hT', v', rfl⟩
      obtain ⟨a1, a2, a3⟩ := hanc _ q
      rw [tK_some hT'] at a2
      have h1 := one_tie (s := p.1) (d := n) E.1 hT' a2 w2 (by rw [tE_some hT]; exact hp)
      have h2 := hρ p.2 v' hT' a2 w2
      rw [← h1.1] at h2
      omega
  -- the end of a directory
  have fin : ∀ (f D n : Nat) (v : aN) (w P : List Int) (fr : Nat) (zl : Int) (B : List aE) (u : aU) (h : mH) (x3 x5 x6 : Option mV), T n = some v → RG r h L T Es here pr K N p0 → RU r h u → ro h (r + 26) 0 P → bd P → P.length ≤ 900 → (∀ i, i < w.length → lf w i = lf P (fr + i)) → w.length ≤ 14 → fr + w.length ≤ P.length → FR r h D n zl P.length fr → D < 58 → (D = 0 → hvi h r 53 = ((fr + w.length : Nat) : Int)) → (0 < D → fr + w.length = P.length) → (u.1.2.2.2 = true ∨ B = []) →
      (∀ h', chJ (sR r sGT) h h' → lowS r D h h' → ro h' (r + 26) 0 P → RU r h' (vs3 L T here K pr v w P (fld (fun n w P u => vis L T here K pr f n w P u) (sl P) B u)) → (D = 0 → C none h') ∧ (0 < D → ∀ x4 x5 x6, wp G d 139 100042 [some (.inr (.inl (some r))), x1, some (.inl (D : Int)), some (.inl 0), x4, x5, x6] [] h' 0 0 C X)) →
      wp G d 139 98 [some (.inr (.inl (some r))), x1, some (.inl (D : Int)), x3, some (.inl (n : Int)), x5, x6] [.inl (-1)] (hsetI h r 43 (P.length : Int)) 0 0 C X := by
    intro f D n v w P fr zl B u h x3 x5 x6 hT HG HU hr bP hPl hsg hnn hfn hF hD h53 hE hB hC
    have q1 : chJ (sR r [143]) h (hsetI h r 43 (P.length : Int)) := chJ_set (by simp [sR])
    have hfl : fld (fun n w P u => vis L T here K pr f n w P u) (sl P) B u = u := by
      rcases hB with q | q
      · exact fld_full q B
      · rw [q]; rfl
    rw [hfl] at hC
    exact gt_fin (by omega) E hK (RG_ch q1 (by simp) HG) hT hD (by rw [hvi_I, if_pos ⟨rfl, rfl⟩]) (fun i hi => by rw [chJ_row q1 (by omega) (by simp)]; exact hr i hi) hsg hnn hfn bP (by omega) (RU_ch q1 (by simp) HU) (by rw [chJ_row q1 (by omega) (by simp)]; exact hF.2.2.2) (fun q => by rw [chJ_fld q1 (by simp) (by simp)]; exact h53 q) hE (fun h' c1 c2 c3 c4 => hC h' (chJ_trans (chJ_sub q1 (by simp [sGT])) c1) (low_tr (low_ch q1 (by simp)) c2) c3 c4)
  intro f
  induction f with
  | zero =>
    intro B D n v w P fr zl A Anc u h x3 x4 x5 x6 hf hT hk hAB hls hnd hal hanc HG HU hcp hr bP hP1 hPl hsg hnn hfn hF h53 hE hC
    have hB : B = [] := by
      cases B with
      | nil => rfl
      | cons p B =>
        obtain ⟨a1, a2, a3⟩ := apart n v p Anc hT (by rw [← hAB]; simp) hanc
        have := pig 48 (p.2 :: Anc) (List.nodup_cons.mpr ⟨a1, hnd⟩) (fun x hx => by
          rcases List.mem_cons.mp hx with q | q
          · rw [q]; exact a2
          · exact (hanc x q).1)
        simp only [List.length_cons] at this
        omega
    exact gt_57 hd E HG hT hk hAB hls HU hF (by omega) (fun hq x5 => fin 0 D n v w P fr zl B u h x3 x5 x6 hT HG HU hr bP (by omega) hsg hnn hfn hF (by omega) h53 hE hq hC) (fun _ p B' hq => by rw [hB] at hq; cases hq)
  | succ f ihf =>
    intro B
    induction B with
    | nil =>
      intro D n v w P fr zl A Anc u h x3 x4 x5 x6 hf hT hk hAB hls hnd hal hanc HG HU hcp hr bP hP1 hPl hsg hnn hfn hF h53 hE hC
      exact gt_57 hd E HG hT hk hAB hls HU hF (by omega) (fun hq x5 => fin (f + 1) D n v w P fr zl [] u h x3 x5 x6 hT HG HU hr bP (by omega) hsg hnn hfn hF (by omega) h53 hE hq hC) (fun _ p B' hq => by cases hq)
    | cons p B ihB =>
      intro D n v w P fr zl A Anc u h x3 x4 x5 x6 hf hT hk hAB hls hnd hal hanc HG HU hcp hr bP hP1 hPl hsg hnn hfn hF h53 hE hC
      have hn := wf_lt E.1 hT
      refine gt_57 hd E HG hT hk hAB hls HU hF (by omega) (fun hq x5 => fin (f + 1) D n v w P fr zl (p :: B) u h x3 x5 x6 hT HG HU hr bP (by omega) hsg hnn hfn hF (by omega) h53 hE hq hC) (fun hfu p' B' hq j hj x5 => ?_)
      injection hq with hq1 hq2
      subst hq1 hq2
      obtain ⟨a1, a2, v', hT'⟩ := apart n v p Anc hT (by rw [← hAB]; simp) hanc
      have hwE : wtE T (p :: B) = wt T p.2 + wtE T B := by simp [wtE]
      rw [hwE] at hcp
      have q1 : chJ (sR r [143]) h (hsetI h r 43 (P.length : Int)) := chJ_set (by simp [sR])
      have hRT := (HG.1.2.2.2.1.2.2 n v hn hT).2.2.2.1 hk
      have hjl := (List.getElem?_eq_some_iff.mp hj).1
      have hE12 := hRT.2.2.1.2.1
      obtain ⟨r1, r2, r3, r4, r5, r6⟩ := hRT.2.2.1.2.2 j p hj
      have hvis : vis L T here K pr (f + 1) p.2 p.1 (sl P ++ p.1) u = vs3 L T here K pr v' p.1 (sl P ++ p.1) (vs2 (fun n w P u => vis L T here K pr f n w P u) K v' (sl P ++ p.1) (vs1 L T here K pr v' p.1 (sl P ++ p.1) u.1, u.2)) := by
        simp only [vis]
        rw [hT']
        simp only
        rw [if_neg (by rw [hfu]; simp)]
      have hfld : fld (fun n w P u => vis L T here K pr (f + 1) n w P u) (sl P) (p :: B) u = fld (fun n w P u => vis L T here K pr (f + 1) n w P u) (sl P) B (vis L T here K pr (f + 1) p.2 p.1 (sl P ++ p.1) u) := by
        simp only [fld]
        rw [if_neg (by rw [hfu]; simp)]
      rw [hfld] at hC
      have hvc := vis_cp (L := L) (K := K) (pr := pr) E.1 (f + 1) p.2 p.1 (sl P ++ p.1) u
      -- the parent goes on
      have goon : ∀ (h' : mH) (x4 x5 x6 : Option mV), chJ (sR r sGT) h h' → lowS r D h h' → FR r h' D n ((12 * n + j : Nat) : Int) P.length fr → ro h' (r + 26) 0 P → RU r h' (vis L T here K pr (f + 1) p.2 p.1 (sl P ++ p.1) u) → wp G d 139 100042 [some (.inr (.inl (some r))), x1, some (.inl ((D + 1 : Nat) : Int)), some (.inl 0), x4, x5, x6] [] h' 0 0 C X := by
        intro h' x4 x5 x6 c1 c2 c3 c4 c5
        refine gt_hd0 (by omega) ?_
        exact ihB D n v w P fr ((12 * n + j : Nat) : Int) (A ++ [p]) Anc (vis L T here K pr (f + 1) p.2 p.1 (sl P ++ p.1) u) h' (some (.inl 0)) x4 x5 x6 hf hT hk (by rw [← hAB]; simp) (Or.inr ⟨A, p, j, rfl, hj, rfl⟩) hnd hal hanc (RG_ch c1 (by simp [sGT]) HG) c5 (by omega) c4 bP hP1 hPl hsg hnn hfn c3 (fun q => by rw [chJ_fld c1 (by simp [sGT]) (by simp [sGT])]; exact h53 q) hE (fun h2 e1 e2 e3 e4 => hC h2 (chJ_trans c1 e1) (low_tr c2 e2) e3 e4)
      have hlsl : (sl P).length ≤ P.length + 1 ∧ bd (sl P) ∧ 1 ≤ (sl P).length := by
        unfold sl
        by_cases h47 : lf P (P.length - 1) = 47
        · rw [if_pos h47]; exact ⟨by omega, bP, hP1⟩
        · rw [if_neg h47]; exact ⟨by simp, bd_app bP (fun x hx => by simp at hx; omega), by simp⟩
      refine gt_name (V := fun n w P u => vis L T here K pr f n w P u) (zl9 := zl) (fr := fr) (p := p) hd E hK (RG_ch q1 (by simp) HG) hT' (by omega) (by omega) (by rw [chJ_row q1 (by omega) (by simp)]; exact r1) (by rw [chJ_row q1 (by omega) (by simp)]; exact r2) (fun i hi => by rw [chJ_row q1 (by omega) (by simp)]; exact r3 i hi) r4 r5 (by rw [hvi_I, if_pos ⟨rfl, rfl⟩]) (fun i hi => by rw [chJ_row q1 (by omega) (by simp)]; exact hr i hi) bP hP1 (by omega) (RU_ch q1 (by simp) HU) (by omega) hfu (FR_low (low_ch (D := D + 1) q1 (by simp)) (by omega) hF) (fun k1 k2 k3 h' x4 x5 x6 c1 c2 c3 c4 c5 c6 => ?_) (fun h' x4 x5 x6 c1 c2 c3 c4 c5 => ?_)
      · have c1' : chJ (sR r sGT) h h' := chJ_trans (chJ_sub q1 (by simp [sGT])) c1
        have c2' : lowS r D h h' := low_tr (low_ch q1 (by simp)) c2
        have hwb := wt_bel E.1 hT' k1
        refine gt_hd1 ?_
        refine ihf (nE v') (D + 1) p.2 v' p.1 (sl P ++ p.1) (sl P).length (-1) [] (p.2 :: Anc) (vs1 L T here K pr v' p.1 (sl P ++ p.1) u.1, u.2) h' (some (.inl 1)) x4 x5 x6 (by omega) hT' k1 rfl (Or.inl ⟨rfl, rfl⟩) (List.nodup_cons.mpr ⟨a1, hnd⟩) (by simp only [List.length_cons]; omega) (fun a ha => ?_) (RG_ch c1' (by simp [sGT]) HG) c6 (by simp only; omega) c5 (bd_app hlsl.2.1 r4) (by rw [List.length_append]; omega) (by rw [List.length_append]; omega) (fun i hi => by rw [lf_app_r (by omega)]; congr 1; omega) r5 (by rw [List.length_append]; omega) c4 (fun q => by omega) (fun _ => by rw [List.length_append]) (fun h2 e1 e2 e3 e4 => ⟨fun q => by omega, fun _ x4 x5 x6 => ?_⟩)
        · rcases List.mem_cons.mp ha with q | q
          · rw [q]; exact ⟨a2, by rw [tK_some hT']; exact k1, Nat.le_refl _⟩
          · obtain ⟨b1, b2, b3⟩ := hanc a q
            obtain ⟨w1, w2, w3⟩ := (E.1.2.2.2.1 n v hT).2.2.2.2.2.2.1 p (by rw [← hAB]; simp)
            have h1 := one_tie (s := p.1) (d := n) E.1 hT' k1 w2 (by rw [tE_some hT, ← hAB]; simp)
            have h2 := hρ p.2 v' hT' k1 w2
            rw [← h1.1] at h2
            exact ⟨b1, b2, by omega⟩
        · refine goon h2 x4 x5 x6 (chJ_trans c1' e1) (low_tr c2' (fun i hi => e2 i (by omega))) (FR_low e2 (by omega) c3) (ro_sl e3) ?_
          rw [hvis, k3]
          exact e4
      · refine goon h' x4 x5 x6 (chJ_trans (chJ_sub q1 (by simp [sGT])) c1) (low_tr (low_ch q1 (by simp)) c2) c3 (ro_sl c4) ?_
        rw [hvis]
        exact c5
