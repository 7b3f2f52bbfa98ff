def mv0 (K Z D : Int) (di : Nat) : aN := ((K, Z, D), ((if K = 0 then 7 else 0), 0, di), [], [])
theorem RT_new {r n di : Nat} {h : mH} {T : aT} {Es : Nat → List aE} {here : Nat} {K Z D : Int} (H : RT r h T Es here) (hT : T n = none) :
    ∀ h', h' = hsetI (hsetI (hsetI (hsetI (hsetI (hsetI (hsetI (hsetI (hsetI h (r + 1) n K) (r + 2) n Z) (r + 3) n D) (r + 4) n 1) (r + 5) n (if K = 0 then 7 else 0)) (r + 6) n (di : Int)) (r + 9) n 0) (r + 7) n 0) (r + 4) n 0 → RT r h' (ud T n (some (mv0 K Z D di))) (EsA Es n []) here := by
  intro h' he
  obtain ⟨g1, g2, g3⟩ := H
  refine ⟨by rw [he]; simp [hty_I, hvi_I, hvr_I, hvl_I, hsz_I, hty_R, hvi_R, hvr_R, hvl_R, hsz_R, hty_L, hvi_L, hvr_L, hvl_L, hsz_L, hty_P, hvi_P, hvr_P, hvl_P, hsz_P, hty_C, hvi_C, hvr_C, hvl_C, hsz_C]; exact g1, fun m hm => ?_, fun m w hm hTm => ?_⟩
  · by_cases h1 : m = n
    · rw [h1, tK_some ud_s, he]; simp [hty_I, hvi_I, hvr_I, hvl_I, hsz_I, hty_R, hvi_R, hvr_R, hvl_R, hsz_R, hty_L, hvi_L, hvr_L, hvl_L, hsz_L, hty_P, hvi_P, hvr_P, hvl_P, hsz_P, hty_C, hvi_C, hvr_C, hvl_C, hsz_C]; rfl
    · rw [he]; simp [hty_I, hvi_I, hvr_I, hvl_I, hsz_I, hty_R, hvi_R, hvr_R, hvl_R, hsz_R, hty_L, hvi_L, hvr_L, hvl_L, hsz_L, hty_P, hvi_P, hvr_P, hvl_P, hsz_P, hty_C, hvi_C, hvr_C, hvl_C, hsz_C, h1]; rw [g2 m hm]; simp only [tK]; rw [ud_n h1]
  · by_cases h1 : m = n
    · subst h1
      rw [ud_s] at hTm; cases hTm
      rw [he]
      refine ⟨by simp [hty_I, hvi_I, hvr_I, hvl_I, hsz_I, hty_R, hvi_R, hvr_R, hvl_R, hsz_R, hty_L, hvi_L, hvr_L, hvl_L, hsz_L, hty_P, hvi_P, hvr_P, hvl_P, hsz_P, hty_C, hvi_C, hvr_C, hvl_C, hsz_C]; rfl, by simp [hty_I, hvi_I, hvr_I, hvl_I, hsz_I, hty_R, hvi_R, hvr_R, hvl_R, hsz_R, hty_L, hvi_L, hvr_L, hvl_L, hsz_L, hty_P, hvi_P, hvr_P, hvl_P, hsz_P, hty_C, hvi_C, hvr_C, hvl_C, hsz_C]; rfl, by simp [hty_I, hvi_I, hvr_I, hvl_I, hsz_I, hty_R, hvi_R, hvr_R, hvl_R, hsz_R, hty_L, hvi_L, hvr_L, hvl_L, hsz_L, hty_P, hvi_P, hvr_P, hvl_P, hsz_P, hty_C, hvi_C, hvr_C, hvl_C, hsz_C]; rfl, fun hk => ?_, fun hk => ?_⟩
      · refine ⟨by simp [hty_I, hvi_I, hvr_I, hvl_I, hsz_I, hty_R, hvi_R, hvr_R, hvl_R, hsz_R, hty_L, hvi_L, hvr_L, hvl_L, hsz_L, hty_P, hvi_P, hvr_P, hvl_P, hsz_P, hty_C, hvi_C, hvr_C, hvl_C, hsz_C]; rfl, by simp [hty_I, hvi_I, hvr_I, hvl_I, hsz_I, hty_R, hvi_R, hvr_R, hvl_R, hsz_R, hty_L, hvi_L, hvr_L, hvl_L, hsz_L, hty_P, hvi_P, hvr_P, hvl_P, hsz_P, hty_C, hvi_C, hvr_C, hvl_C, hsz_C]; rfl, ?_, ?_⟩
        · unfold EsA; rw [if_pos rfl]
          exact ⟨by simp [hty_I, hvi_I, hvr_I, hvl_I, hsz_I, hty_R, hvi_R, hvr_R, hvl_R, hsz_R, hty_L, hvi_L, hvr_L, hvl_L, hsz_L, hty_P, hvi_P, hvr_P, hvl_P, hsz_P, hty_C, hvi_C, hvr_C, hvl_C, hsz_C], by simp, fun k p hk => by simp at hk⟩
        · unfold EsA; rw [if_pos rfl]; exact List.Perm.nil
      · exact ⟨by simp [hty_I, hvi_I, hvr_I, hvl_I, hsz_I, hty_R, hvi_R, hvr_R, hvl_R, hsz_R, hty_L, hvi_L, hvr_L, hvl_L, hsz_L, hty_P, hvi_P, hvr_P, hvl_P, hsz_P, hty_C, hvi_C, hvr_C, hvl_C, hsz_C]; rfl, fun i hi => by simp [mv0, nX] at hi, fun c hc => by simp [mv0, nX] at hc, by simp [mv0, nX]⟩
    · rw [ud_n h1] at hTm
      obtain ⟨f1, f2, f3, f4, f5⟩ := g3 m w hm hTm
      rw [he]
      refine ⟨by simp [hty_I, hvi_I, hvr_I, hvl_I, hsz_I, hty_R, hvi_R, hvr_R, hvl_R, hsz_R, hty_L, hvi_L, hvr_L, hvl_L, hsz_L, hty_P, hvi_P, hvr_P, hvl_P, hsz_P, hty_C, hvi_C, hvr_C, hvl_C, hsz_C, h1, f1], by simp [hty_I, hvi_I, hvr_I, hvl_I, hsz_I, hty_R, hvi_R, hvr_R, hvl_R, hsz_R, hty_L, hvi_L, hvr_L, hvl_L, hsz_L, hty_P, hvi_P, hvr_P, hvl_P, hsz_P, hty_C, hvi_C, hvr_C, hvl_C, hsz_C, h1, f2], by simp [hty_I, hvi_I, hvr_I, hvl_I, hsz_I, hty_R, hvi_R, hvr_R, hvl_R, hsz_R, hty_L, hvi_L, hvr_L, hvl_L, hsz_L, hty_P, hvi_P, hvr_P, hvl_P, hsz_P, hty_C, hvi_C, hvr_C, hvl_C, hsz_C, h1, f3], fun hk => ?_, fun hk => ?_⟩
      · obtain ⟨e1, e2, ⟨r1, r2, r3⟩, e4⟩ := f4 hk
        refine ⟨by simp [hty_I, hvi_I, hvr_I, hvl_I, hsz_I, hty_R, hvi_R, hvr_R, hvl_R, hsz_R, hty_L, hvi_L, hvr_L, hvl_L, hsz_L, hty_P, hvi_P, hvr_P, hvl_P, hsz_P, hty_C, hvi_C, hvr_C, hvl_C, hsz_C, h1, e1], by simp [hty_I, hvi_I, hvr_I, hvl_I, hsz_I, hty_R, hvi_R, hvr_R, hvl_R, hsz_R, hty_L, hvi_L, hvr_L, hvl_L, hsz_L, hty_P, hvi_P, hvr_P, hvl_P, hsz_P, hty_C, hvi_C, hvr_C, hvl_C, hsz_C, h1, e2], ?_, by unfold EsA; rw [if_neg h1]; exact e4⟩
        unfold EsA; rw [if_neg h1]
        refine ⟨by simp [hty_I, hvi_I, hvr_I, hvl_I, hsz_I, hty_R, hvi_R, hvr_R, hvl_R, hsz_R, hty_L, hvi_L, hvr_L, hvl_L, hsz_L, hty_P, hvi_P, hvr_P, hvl_P, hsz_P, hty_C, hvi_C, hvr_C, hvl_C, hsz_C, h1, r1], r2, fun k p hk => ?_⟩
        obtain ⟨y1, y2, y3, y4⟩ := r3 k p hk
        exact ⟨by simp [hty_I, hvi_I, hvr_I, hvl_I, hsz_I, hty_R, hvi_R, hvr_R, hvl_R, hsz_R, hty_L, hvi_L, hvr_L, hvl_L, hsz_L, hty_P, hvi_P, hvr_P, hvl_P, hsz_P, hty_C, hvi_C, hvr_C, hvl_C, hsz_C, y1], by simp [hty_I, hvi_I, hvr_I, hvl_I, hsz_I, hty_R, hvi_R, hvr_R, hvl_R, hsz_R, hty_L, hvi_L, hvr_L, hvl_L, hsz_L, hty_P, hvi_P, hvr_P, hvl_P, hsz_P, hty_C, hvi_C, hvr_C, hvl_C, hsz_C, y2], fun i hi => by simp [hty_I, hvi_I, hvr_I, hvl_I, hsz_I, hty_R, hvi_R, hvr_R, hvl_R, hsz_R, hty_L, hvi_L, hvr_L, hvl_L, hsz_L, hty_P, hvi_P, hvr_P, hvl_P, hsz_P, hty_C, hvi_C, hvr_C, hvl_C, hsz_C]; exact y3 i hi, y4⟩
      · obtain ⟨e1, e2, e3⟩ := f5 hk
        exact ⟨by simp [hty_I, hvi_I, hvr_I, hvl_I, hsz_I, hty_R, hvi_R, hvr_R, hvl_R, hsz_R, hty_L, hvi_L, hvr_L, hvl_L, hsz_L, hty_P, hvi_P, hvr_P, hvl_P, hsz_P, hty_C, hvi_C, hvr_C, hvl_C, hsz_C, h1, e1], fun i hi => by simp [hty_I, hvi_I, hvr_I, hvl_I, hsz_I, hty_R, hvi_R, hvr_R, hvl_R, hsz_R, hty_L, hvi_L, hvr_L, hvl_L, hsz_L, hty_P, hvi_P, hvr_P, hvl_P, hsz_P, hty_C, hvi_C, hvr_C, hvl_C, hsz_C]; exact e2 i hi, e3⟩
theorem jn_eq {T : aT} {n di : Nat} {s : List Int} {v v' : aN} (hdn : ¬ di = n) (h : vA v 0 = vA v' 0) : jnT (ud T n (some v)) di s n v = jnT (ud T n (some v')) di s n v' := by
  obtain ⟨⟨a1, a2, a3⟩, ⟨b1, b2, b3⟩, c1, c2⟩ := v
  obtain ⟨⟨a1', a2', a3'⟩, ⟨b1', b2', b3'⟩, c1', c2'⟩ := v'
  simp only [vA, Prod.mk.injEq] at h
  obtain ⟨⟨rfl, rfl, rfl⟩, ⟨rfl, rfl, -⟩, rfl, rfl⟩ := h
  funext m
  unfold jnT addE
  rw [ud_n hdn, ud_n hdn]
  by_cases hm : m = n
  · rw [hm, ud_s, ud_s]; rfl
  · rw [ud_n hm, ud_n hm]
    cases T di with
    | none => simp only; rw [ud_n hm, ud_n hm]
    | some vd =>
      simp only
      by_cases h2 : m = di
      · rw [h2, ud_s, ud_s]
      · rw [ud_n h2, ud_n h2, ud_n hm, ud_n hm]
theorem r_makeNode {G : Nat → Nat} {d r k di : Nat} {h : mH} {C : mQ} {X : mX} {Es : Nat → List aE} {L : List Int} {T : aT} {here : Nat} {O : List Int} {cp bad K Z D : Int} {vd : aN} (hd : 2 ≤ d) (H : RS r h Es L T here O cp bad) (hw : wf T here) (k1 : hvi h r 51 = (lS L k : Int)) (k2 : hvi h r 52 = (lE L k : Int)) (hk : k < (wds L).length) (e4 : isNm (nmL L k) = true) (e5 : T di = some vd) (e6 : nK vd = 0) (e8 : (nE vd).length < 12) (hct : cnt T 48 < 48)
    (hC : ∀ h' Es', chJ (sR r [1, 2, 3, 4, 5, 6, 7, 9, 10, 11, 12]) h h' → RS r h' Es' L (jnT (ud T (frF T 48) (some (mv0 K Z D di))) di (nmL L k) (frF T 48) (mv0 K Z D di)) here O cp bad → C (some (.inl (frF T 48 : Int))) h') :
    callG (wp G) d 111 0 0 6 [.inr (.inl (some r)), .inl (di : Int), .inl K, .inl Z, .inl D] h C X := by
  have HR := H.1
  have R0 := HR.1; have R_kinds := rn_kinds HR; have R_sizes := rn_sizes HR; have R_days := rn_days HR; have R_ties := rn_ties HR; have R_bitsOf := rn_bitsOf HR; have R_parents := rn_parents HR; have R_textSizes := rn_textSizes HR; have R_many := rn_many HR; have R_line := rn_line HR
  obtain ⟨hn, hTn⟩ := frF_lt hct
  have hdi := wf_lt hw e5
  have hpos : ∀ n v, n < 48 → T n = some v → 0 ≤ nK v := fun n v _ hT => by have := (hw.2.2.2.1 n v hT).1; omega
  have hff : frI (frF T 48) = (frF T 48 : Int) := by unfold frI; rw [if_neg (by omega)]
  generalize hnn : frF T 48 = n at *
  have hff2 : frI (frF T 48) = (n : Int) := by rw [hnn]; exact hff
  have hdn : ¬ di = n := fun q => by rw [q, hTn] at e5; cases e5
  have g2 := H.2.2.2.1.2.1
  have hb := lE_b L k
  have hnl := nmL_len L k
  have hE : (lE L k : Int) = ((lS L k + (nmL L k).length : Nat) : Int) := by omega
  have hl100 := H.2.2.1.1
  have hnb := isNm_b e4
  have HTg := RT_new (r := r) (n := n) (di := di) (K := K) (Z := Z) (D := D) H.2.2.2.1 hTn _ rfl
  have q1 : chJ (sR r [1, 2, 3, 4, 5, 6, 7, 9, 10, 11, 12]) h (hsetI (hsetI (hsetI (hsetI (hsetI (hsetI (hsetI (hsetI h (r + 1) n K) (r + 2) n Z) (r + 3) n D) (r + 4) n 1) (r + 5) n (if K = 0 then 7 else 0)) (r + 6) n (di : Int)) (r + 9) n 0) (r + 7) n 0) := by
    refine chJ_trans (chJ_trans (chJ_trans (chJ_trans (chJ_trans (chJ_trans (chJ_trans (chJ_set ?_) (chJ_set ?_)) (chJ_set ?_)) (chJ_set ?_)) (chJ_set ?_)) (chJ_set ?_)) (chJ_set ?_)) (chJ_set ?_) <;> simp [sR]
  have hro : ro (hsetI (hsetI (hsetI (hsetI (hsetI (hsetI (hsetI (hsetI h (r + 1) n K) (r + 2) n Z) (r + 3) n D) (r + 4) n 1) (r + 5) n (if K = 0 then 7 else 0)) (r + 6) n (di : Int)) (r + 9) n 0) (r + 7) n 0) (r + 13) (lS L k) (nmL L k) := fun i hi => by rw [chJ_row q1 (by omega) (by simp), nmL_get (by omega)]; exact H.2.1.2 _ (by omega) (by omega)
  have hREd : RE r (hsetI (hsetI (hsetI (hsetI (hsetI (hsetI (hsetI (hsetI h (r + 1) n K) (r + 2) n Z) (r + 3) n D) (r + 4) n 1) (r + 5) n (if K = 0 then 7 else 0)) (r + 6) n (di : Int)) (r + 9) n 0) (r + 7) n 0) di (Es di) := by
    obtain ⟨-, -, -, f4, -⟩ := H.2.2.2.1.2.2 di vd hdi e5
    obtain ⟨-, -, ⟨r1, r2, r3⟩, -⟩ := f4 e6
    refine ⟨by simp [hty_I, hvi_I, hvr_I, hvl_I, hsz_I, hty_R, hvi_R, hvr_R, hvl_R, hsz_R, hty_L, hvi_L, hvr_L, hvl_L, hsz_L, hty_P, hvi_P, hvr_P, hvl_P, hsz_P, hty_C, hvi_C, hvr_C, hvl_C, hsz_C, hdn, r1], r2, fun k p hk => ?_⟩
    obtain ⟨y1, y2, y3, y4⟩ := r3 k p hk
    exact ⟨by simp [hty_I, hvi_I, hvr_I, hvl_I, hsz_I, hty_R, hvi_R, hvr_R, hvl_R, hsz_R, hty_L, hvi_L, hvr_L, hvl_L, hsz_L, hty_P, hvi_P, hvr_P, hvl_P, hsz_P, hty_C, hvi_C, hvr_C, hvl_C, hsz_C, y1], by simp [hty_I, hvi_I, hvr_I, hvl_I, hsz_I, hty_R, hvi_R, hvr_R, hvl_R, hsz_R, hty_L, hvi_L, hvr_L, hvl_L, hsz_L, hty_P, hvi_P, hvr_P, hvl_P, hsz_P, hty_C, hvi_C, hvr_C, hvl_C, hsz_C, y2], fun i hi => by simp [hty_I, hvi_I, hvr_I, hvl_I, hsz_I, hty_R, hvi_R, hvr_R, hvl_R, hsz_R, hty_L, hvi_L, hvr_L, hvl_L, hsz_L, hty_P, hvi_P, hvr_P, hvl_P, hsz_P, hty_C, hvi_C, hvr_C, hvl_C, hsz_C]; exact y3 i hi, y4⟩
  have hlen : (Es di).length = (nE vd).length := by
    obtain ⟨-, -, -, f4, -⟩ := H.2.2.2.1.2.2 di vd hdi e5
    exact (f4 e6).2.2.2.length_eq
  have hgen : ∀ {C : mQ}, (∀ h', RS r h' (EsA (EsA Es n []) di (EsA Es n [] di ++ [(nmL L k, n)])) L (jnT (ud T n (some (mv0 K Z D di))) di (nmL L k) n (mv0 K Z D di)) here O cp bad → chJ (sR r [1, 2, 3, 4, 5, 6, 7, 9, 10, 11, 12]) h h' → C none h') → ∀ X d, callG (wp G) d 103 0 0 8 [.inr (.inl (some r)), .inl (di : Int), .inr (.inl (some (r + 13))), .inl (lS L k : Int), .inl (lE L k : Int), .inl (n : Int)] (hsetI (hsetI (hsetI (hsetI (hsetI (hsetI (hsetI (hsetI h (r + 1) n K) (r + 2) n Z) (r + 3) n D) (r + 4) n 1) (r + 5) n (if K = 0 then 7 else 0)) (r + 6) n (di : Int)) (r + 9) n 0) (r + 7) n 0) C X := by
    intro C hC X d
    refine r_addNameZ (s := nmL L k) (E := Es di) hE (RN_ch q1 HR) (fun j => by simp [hty_I, hvi_I, hvr_I, hvl_I, hsz_I, hty_R, hvi_R, hvr_R, hvl_R, hsz_R, hty_L, hvi_L, hvr_L, hvl_L, hsz_L, hty_P, hvi_P, hvr_P, hvl_P, hsz_P, hty_C, hvi_C, hvr_C, hvl_C, hsz_C]; exact H.2.2.2.2.1 j) hdi hn (by omega) hnb.1 hnb.2.2.1 (by omega) hro hREd (fun h4 y1 y2 y3 y4 => ?_)
    have q4 : chJ (sR r [1, 2, 3, 4, 5, 6, 7, 9, 10, 11, 12]) h h4 := chJ_trans q1 (chJ_sub y1 (by simp))
    refine hC h4 ⟨RN_ch q4 HR, RP_ch q4 (by simp) (by simp) (by simp) H.2.1, H.2.2.1, ?_, y2, RO_ch q4 (by simp) H.2.2.2.2.2.1, by rw [chJ_fld q4 (by simp) (by simp)]; exact H.2.2.2.2.2.2.1, by rw [chJ_fld q4 (by simp) (by simp)]; exact H.2.2.2.2.2.2.2⟩ q4
    have hq : ∀ {x : mH}, chJ (sR r [4, 9, 10, 11, 12]) (hsetI x (r + 4) n 0) x := fun {x} => ⟨rfl, fun _ => rfl, fun _ _ => rfl, fun _ _ => rfl, fun a j z => by rw [hvi_I, if_neg (fun q => z (by rw [q.1]; simp [sR]))]⟩
    have hEsd : EsA Es n [] di = Es di := by unfold EsA; rw [if_neg hdn]
    refine RT_jn (Or.inr trivial) HTg hdn hdi (by rw [ud_n hdn]; exact e5) e6 ud_s rfl (chJ_trans hq (chJ_sub y1 (by simp))) (by simp) (fun m hm => ?_) (by rw [hEsd]; exact y3) (fun m hm E hE => ?_) (fun hk => by simp [hty_I, hvi_I, hvr_I, hvl_I, hsz_I, hty_R, hvi_R, hvr_R, hvl_R, hsz_R, hty_L, hvi_L, hvr_L, hvl_L, hsz_L, hty_P, hvi_P, hvr_P, hvl_P, hsz_P, hty_C, hvi_C, hvr_C, hvl_C, hsz_C])
    · rw [chJ_row y1 (by omega) (by simp)]
      by_cases hmn : m = n
      · simp [hty_I, hvi_I, hvr_I, hvl_I, hsz_I, hty_R, hvi_R, hvr_R, hvl_R, hsz_R, hty_L, hvi_L, hvr_L, hvl_L, hsz_L, hty_P, hvi_P, hvr_P, hvl_P, hsz_P, hty_C, hvi_C, hvr_C, hvl_C, hsz_C, hmn]; rfl
      · simp [hty_I, hvi_I, hvr_I, hvl_I, hsz_I, hty_R, hvi_R, hvr_R, hvl_R, hsz_R, hty_L, hvi_L, hvr_L, hvl_L, hsz_L, hty_P, hvi_P, hvr_P, hvl_P, hsz_P, hty_C, hvi_C, hvr_C, hvl_C, hsz_C, hmn]
    · refine y4 m E hm ?_
      obtain ⟨r1, r2, r3⟩ := hE
      refine ⟨by simpa [hty_I, hvi_I, hvr_I, hvl_I, hsz_I, hty_R, hvi_R, hvr_R, hvl_R, hsz_R, hty_L, hvi_L, hvr_L, hvl_L, hsz_L, hty_P, hvi_P, hvr_P, hvl_P, hsz_P, hty_C, hvi_C, hvr_C, hvl_C, hsz_C] using r1, r2, fun k p hk => ?_⟩
      obtain ⟨y1, y2, y3, y4⟩ := r3 k p hk
      exact ⟨by simpa [hty_I, hvi_I, hvr_I, hvl_I, hsz_I, hty_R, hvi_R, hvr_R, hvl_R, hsz_R, hty_L, hvi_L, hvr_L, hvl_L, hsz_L, hty_P, hvi_P, hvr_P, hvl_P, hsz_P, hty_C, hvi_C, hvr_C, hvl_C, hsz_C] using y1, by simpa [hty_I, hvi_I, hvr_I, hvl_I, hsz_I, hty_R, hvi_R, hvr_R, hvl_R, hsz_R, hty_L, hvi_L, hvr_L, hvl_L, hsz_L, hty_P, hvi_P, hvr_P, hvl_P, hsz_P, hty_C, hvi_C, hvr_C, hvl_C, hsz_C] using y2, fun i hi => by have := y3 i hi; simpa [hty_I, hvi_I, hvr_I, hvl_I, hsz_I, hty_R, hvi_R, hvr_R, hvl_R, hsz_R, hty_L, hvi_L, hvr_L, hvl_L, hsz_L, hty_P, hvi_P, hvr_P, hvl_P, hsz_P, hty_C, hvi_C, hvr_C, hvl_C, hsz_C] using this, y4⟩
  have kk1 : ∀ K b, hvi (hsetI (hsetI (hsetI (hsetI (hsetI (hsetI (hsetI (hsetI h (r + 1) n K) (r + 2) n Z) (r + 3) n D) (r + 4) n 1) (r + 5) n b) (r + 6) n (di : Int)) (r + 9) n 0) (r + 7) n 0) r 51 = (lS L k : Int) := fun K b => by simp [hty_I, hvi_I, hvr_I, hvl_I, hsz_I, hty_R, hvi_R, hvr_R, hvl_R, hsz_R, hty_L, hvi_L, hvr_L, hvl_L, hsz_L, hty_P, hvi_P, hvr_P, hvl_P, hsz_P, hty_C, hvi_C, hvr_C, hvl_C, hsz_C, k1]
  have kk2 : ∀ K b, hvi (hsetI (hsetI (hsetI (hsetI (hsetI (hsetI (hsetI (hsetI h (r + 1) n K) (r + 2) n Z) (r + 3) n D) (r + 4) n 1) (r + 5) n b) (r + 6) n (di : Int)) (r + 9) n 0) (r + 7) n 0) r 52 = (lE L k : Int) := fun K b => by simp [hty_I, hvi_I, hvr_I, hvl_I, hsz_I, hty_R, hvi_R, hvr_R, hvl_R, hsz_R, hty_L, hvi_L, hvr_L, hvl_L, hsz_L, hty_P, hvi_P, hvr_P, hvl_P, hsz_P, hty_C, hvi_C, hvr_C, hvl_C, hsz_C, k2]
  refine cg 1 (by omega) (fun d hd => ?_)
  have hd0 : (0 < d) = True := eq_true (by omega)
  by_cases hK : K = 0
  · rw [if_pos hK] at hgen
    subst hK
    (repeat' (first | with_reducible assumption | (refine r_freeNode HR g2 hpos ?_) | (refine And.intro ?_ ?_) | (with_reducible intro _) | (simp [wp_ne 31, wpE, mk_X11_makeNode, mg, mc_X11_makeNode, lget, lset, popN, cats, rcv, entL, isArr, kC_s, kC_n, st1, st2, st3, st4, st5, st6, st7, st8, st9, st10, st11, st12, st13, st14, st15, st16, st17, st18, st19, st20, st21, st22, st23, st24, st25, st26, st27, st28, st29, st30, st31, st32, st33, st34, st35, st36, st37, st38, st39, st40, st41, st42, st43, st44, st45, st46, st47, st48, st49, st50, st51, st52, st53, st54, st55, st56, st57, st58, st59, st60, st61, st62, st63, st64, st65, st66, st67, st68, st69, st70, st71, st72, st73, st74, st75, st76, st77, st78, st79, st80, st81, st82, st83, st84, st85, st86, st87, st88, st89, st90, st91, R0, R_kinds, R_sizes, R_days, R_ties, R_bitsOf, R_parents, R_textSizes, R_many, R_line, hd0, hff2, hty_I, hvr_I]))) <;> (try (first | omega | exact hz))
    (repeat' (first | with_reducible assumption | (refine And.intro ?_ ?_) | (with_reducible intro _) | (simp [wp_ne 56, wpE, mk_X11_makeNode, mg, mc_X11_makeNode, lget, lset, popN, cats, rcv, entL, isArr, kC_s, kC_n, st1, st2, st3, st4, st5, st6, st7, st8, st9, st10, st11, st12, st13, st14, st15, st16, st17, st18, st19, st20, st21, st22, st23, st24, st25, st26, st27, st28, st29, st30, st31, st32, st33, st34, st35, st36, st37, st38, st39, st40, st41, st42, st43, st44, st45, st46, st47, st48, st49, st50, st51, st52, st53, st54, st55, st56, st57, st58, st59, st60, st61, st62, st63, st64, st65, st66, st67, st68, st69, st70, st71, st72, st73, st74, st75, st76, st77, st78, st79, st80, st81, st82, st83, st84, st85, st86, st87, st88, st89, st90, st91, R0, R_kinds, R_sizes, R_days, R_ties, R_bitsOf, R_parents, R_textSizes, R_many, R_line, hty_I, hvr_I]))) <;> (try (first | omega | exact hz))
    (repeat' (first | with_reducible assumption | (refine And.intro ?_ ?_) | (with_reducible intro _) | (simp [wp_ne 80, wpE, mk_X11_makeNode, mg, mc_X11_makeNode, lget, lset, popN, cats, rcv, entL, isArr, kC_s, kC_n, st1, st2, st3, st4, st5, st6, st7, st8, st9, st10, st11, st12, st13, st14, st15, st16, st17, st18, st19, st20, st21, st22, st23, st24, st25, st26, st27, st28, st29, st30, st31, st32, st33, st34, st35, st36, st37, st38, st39, st40, st41, st42, st43, st44, st45, st46, st47, st48, st49, st50, st51, st52, st53, st54, st55, st56, st57, st58, st59, st60, st61, st62, st63, st64, st65, st66, st67, st68, st69, st70, st71, st72, st73, st74, st75, st76, st77, st78, st79, st80, st81, st82, st83, st84, st85, st86, st87, st88, st89, st90, st91, R0, R_kinds, R_sizes, R_days, R_ties, R_bitsOf, R_parents, R_textSizes, R_many, R_line, hty_I, hvr_I]))) <;> (try (first | omega | exact hz))
    (repeat' (first | with_reducible assumption | (refine hgen ?_ _ _) | (refine And.intro ?_ ?_) | (with_reducible intro _) | (simp [wp_eq, wpE, mk_X11_makeNode, mg, mc_X11_makeNode, lget, lset, popN, cats, rcv, entL, isArr, kC_s, kC_n, st1, st2, st3, st4, st5, st6, st7, st8, st9, st10, st11, st12, st13, st14, st15, st16, st17, st18, st19, st20, st21, st22, st23, st24, st25, st26, st27, st28, st29, st30, st31, st32, st33, st34, st35, st36, st37, st38, st39, st40, st41, st42, st43, st44, st45, st46, st47, st48, st49, st50, st51, st52, st53, st54, st55, st56, st57, st58, st59, st60, st61, st62, st63, st64, st65, st66, st67, st68, st69, st70, st71, st72, st73, st74, st75, st76, st77, st78, st79, st80, st81, st82, st83, st84, st85, st86, st87, st88, st89, st90, st91, R0, R_kinds, R_sizes, R_days, R_ties, R_bitsOf, R_parents, R_textSizes, R_many, R_line, hd0, kk1, kk2, hty_I, hvr_I]))) <;> (try (first | omega | exact hz))
    all_goals first | omega | (rename_i zzh zz1 zz2; exact hC zzh _ zz2 zz1) | skip
    all_goals done
  · rw [if_neg hK] at hgen
    (repeat' (first | with_reducible assumption | (refine r_freeNode HR g2 hpos ?_) | (refine And.intro ?_ ?_) | (with_reducible intro _) | (simp [wp_ne 31, wpE, mk_X11_makeNode, mg, mc_X11_makeNode, lget, lset, popN, cats, rcv, entL, isArr, kC_s, kC_n, st1, st2, st3, st4, st5, st6, st7, st8, st9, st10, st11, st12, st13, st14, st15, st16, st17, st18, st19, st20, st21, st22, st23, st24, st25, st26, st27, st28, st29, st30, st31, st32, st33, st34, st35, st36, st37, st38, st39, st40, st41, st42, st43, st44, st45, st46, st47, st48, st49, st50, st51, st52, st53, st54, st55, st56, st57, st58, st59, st60, st61, st62, st63, st64, st65, st66, st67, st68, st69, st70, st71, st72, st73, st74, st75, st76, st77, st78, st79, st80, st81, st82, st83, st84, st85, st86, st87, st88, st89, st90, st91, R0, R_kinds, R_sizes, R_days, R_ties, R_bitsOf, R_parents, R_textSizes, R_many, R_line, hd0, hff2, hty_I, hvr_I]))) <;> (try (first | omega | exact hz))
    (repeat' (first | with_reducible assumption | (refine And.intro ?_ ?_) | (with_reducible intro _) | (simp [wp_ne 56, wpE, mk_X11_makeNode, mg, mc_X11_makeNode, lget, lset, popN, cats, rcv, entL, isArr, kC_s, kC_n, st1, st2, st3, st4, st5, st6, st7, st8, st9, st10, st11, st12, st13, st14, st15, st16, st17, st18, st19, st20, st21, st22, st23, st24, st25, st26, st27, st28, st29, st30, st31, st32, st33, st34, st35, st36, st37, st38, st39, st40, st41, st42, st43, st44, st45, st46, st47, st48, st49, st50, st51, st52, st53, st54, st55, st56, st57, st58, st59, st60, st61, st62, st63, st64, st65, st66, st67, st68, st69, st70, st71, st72, st73, st74, st75, st76, st77, st78, st79, st80, st81, st82, st83, st84, st85, st86, st87, st88, st89, st90, st91, R0, R_kinds, R_sizes, R_days, R_ties, R_bitsOf, R_parents, R_textSizes, R_many, R_line, hK, hty_I, hvr_I]))) <;> (try (first | omega | exact hz))
    (repeat' (first | with_reducible assumption | (refine And.intro ?_ ?_) | (with_reducible intro _) | (simp [wp_ne 80, wpE, mk_X11_makeNode, mg, mc_X11_makeNode, lget, lset, popN, cats, rcv, entL, isArr, kC_s, kC_n, st1, st2, st3, st4, st5, st6, st7, st8, st9, st10, st11, st12, st13, st14, st15, st16, st17, st18, st19, st20, st21, st22, st23, st24, st25, st26, st27, st28, st29, st30, st31, st32, st33, st34, st35, st36, st37, st38, st39, st40, st41, st42, st43, st44, st45, st46, st47, st48, st49, st50, st51, st52, st53, st54, st55, st56, st57, st58, st59, st60, st61, st62, st63, st64, st65, st66, st67, st68, st69, st70, st71, st72, st73, st74, st75, st76, st77, st78, st79, st80, st81, st82, st83, st84, st85, st86, st87, st88, st89, st90, st91, R0, R_kinds, R_sizes, R_days, R_ties, R_bitsOf, R_parents, R_textSizes, R_many, R_line, hty_I, hvr_I]))) <;> (try (first | omega | exact hz))
    (repeat' (first | with_reducible assumption | (refine hgen ?_ _ _) | (refine And.intro ?_ ?_) | (with_reducible intro _) | (simp [wp_eq, wpE, mk_X11_makeNode, mg, mc_X11_makeNode, lget, lset, popN, cats, rcv, entL, isArr, kC_s, kC_n, st1, st2, st3, st4, st5, st6, st7, st8, st9, st10, st11, st12, st13, st14, st15, st16, st17, st18, st19, st20, st21, st22, st23, st24, st25, st26, st27, st28, st29, st30, st31, st32, st33, st34, st35, st36, st37, st38, st39, st40, st41, st42, st43, st44, st45, st46, st47, st48, st49, st50, st51, st52, st53, st54, st55, st56, st57, st58, st59, st60, st61, st62, st63, st64, st65, st66, st67, st68, st69, st70, st71, st72, st73, st74, st75, st76, st77, st78, st79, st80, st81, st82, st83, st84, st85, st86, st87, st88, st89, st90, st91, R0, R_kinds, R_sizes, R_days, R_ties, R_bitsOf, R_parents, R_textSizes, R_many, R_line, hd0, kk1, kk2, hty_I, hvr_I]))) <;> (try (first | omega | exact hz))
    all_goals first | omega | (rename_i zzh zz1 zz2; exact hC zzh _ zz2 zz1) | skip
    all_goals done
theorem q_make {G : Nat → Nat} {d r : Nat} {h : mH} {C : mQ} {X : mX} {Es : Nat → List aE} {L : List Int} {T : aT} {here : Nat} {O : List Int} {cp bad Z D : Int} {dir : Bool} (hd : 7 ≤ d) (H : RS r h Es L T here O cp bad) (hw : wf T here)
    (hC1 : ((0 ≤ Z ∧ Z ≤ 999999) ∧ (0 ≤ D ∧ D ≤ 999999)) → ∀ h' Es', RS r h' Es' L (mkT T here L 0 (mkV dir Z D)) here O cp bad → hvi h' r 0 = 0 → C (some (.inl (mkR T here L 0))) h')
    (hC2 : ¬ ((0 ≤ Z ∧ Z ≤ 999999) ∧ (0 ≤ D ∧ D ≤ 999999)) → ∀ h', RS r h' Es L T here O cp bad → hvi h' r 0 = 1 → C (some (.inl 0)) h') :
    callG (wp G) d 113 0 0 5 [.inr (.inl (some r)), .inl (b01 dir), .inl Z, .inl D] h C X := by
  have R0 := H.1.1
  refine cg 6 (by omega) (fun d hd => ?_)
  have hd0 : (0 < d) = True := eq_true (by omega)
  by_cases hb : (0 ≤ Z ∧ Z ≤ 999999) ∧ (0 ≤ D ∧ D ≤ 999999)
  · have hC := hC1 hb
    have z1 : (if 0 ≤ Z ∧ Z ≤ 999999 then (1 : Int) else 0) = 1 := if_pos hb.1
    have z2 : (if 0 ≤ D ∧ D ≤ 999999 then (1 : Int) else 0) = 1 := if_pos hb.2
    have q0 : chJ (sR r [100]) h (hsetI h r 0 0) := chJ_set (by simp [sR])
    have H0 := RS_ch q0 (by simp) H
    have R00 : hty (hsetI h r 0 0) r = some (11, 54) := R0
    (repeat' (first | with_reducible assumption | (refine r_isIn ?_) | (refine r_refused H.1 ?_) | (refine And.intro ?_ ?_) | (with_reducible intro _) | (simp [wp_eq, wpE, mk_X11_make, mg, mc_X11_make, lget, lset, popN, cats, rcv, entL, isArr, kC_s, kC_n, st1, st2, st3, st4, st5, st6, st7, st8, st9, st10, st11, st12, st13, st14, st15, st16, st17, st18, st19, st20, st21, st22, st23, st24, st25, st26, st27, st28, st29, st30, st31, st32, st33, st34, st35, st36, st37, st38, st39, st40, st41, st42, st43, st44, st45, st46, st47, st48, st49, st50, st51, st52, st53, st54, st55, st56, st57, st58, st59, st60, st61, st62, st63, st64, st65, st66, st67, st68, st69, st70, st71, st72, st73, st74, st75, st76, st77, st78, st79, st80, st81, st82, st83, st84, st85, st86, st87, st88, st89, st90, st91, R0, R00, hd0, z1, z2]))) <;> (try (first | omega | exact hz))
    refine r_cut H0.1 H0.2.2.1.1 H0.2.1 (fun h1 z1 z2 z3 z4 => ?_)
    have H1 := RS_ch z4 (by simp) H0
    have R1 := H1.1.1
    simp [wp_eq, wpE, mk_X11_make, mg, mc_X11_make, lget, lset, popN, cats, rcv, entL, isArr, kC_s, kC_n, st1, st2, st3, st4, st5, st6, st7, st8, st9, st10, st11, st12, st13, st14, st15, st16, st17, st18, st19, st20, st21, st22, st23, st24, st25, st26, st27, st28, st29, st30, st31, st32, st33, st34, st35, st36, st37, st38, st39, st40, st41, st42, st43, st44, st45, st46, st47, st48, st49, st50, st51, st52, st53, st54, st55, st56, st57, st58, st59, st60, st61, st62, st63, st64, st65, st66, st67, st68, st69, st70, st71, st72, st73, st74, st75, st76, st77, st78, st79, st80, st81, st82, st83, st84, st85, st86, st87, st88, st89, st90, st91, R1, hd0]
    refine r_newPlace (k := 0) (fn := true) (by omega) H1 z3 hw (fun h3 p2 p3 => ?_)
    have H3 := RS_ch p2 (by simp) H1
    have R3 := H3.1.1
    have hr3 : hvi h3 r 0 = 0 := by rw [chJ_fld p2 (by simp) (by simp), chJ_fld z4 (by simp) (by simp)]; simp [hty_I, hvi_I, hvr_I, hvl_I, hsz_I, hty_R, hvi_R, hvr_R, hvl_R, hsz_R, hty_L, hvi_L, hvr_L, hvl_L, hsz_L, hty_P, hvi_P, hvr_P, hvl_P, hsz_P, hty_C, hvi_C, hvr_C, hvl_C, hsz_C]
    unfold mkR mkT at hC
    rcases npl_ok (L := L) (k := 0) (fn := true) hw with hn | ⟨di, vd, e1, e2, e3, e4, e5, e6, e7, e8, e9⟩
    · simp only [hn, if_true] at hC
      have hz := hC h3 Es H3 hr3
      (repeat' (first | with_reducible assumption | (refine And.intro ?_ ?_) | (with_reducible intro _) | (simp [wp_eq, wpE, mk_X11_make, mg, mc_X11_make, lget, lset, popN, cats, rcv, entL, isArr, kC_s, kC_n, st1, st2, st3, st4, st5, st6, st7, st8, st9, st10, st11, st12, st13, st14, st15, st16, st17, st18, st19, st20, st21, st22, st23, st24, st25, st26, st27, st28, st29, st30, st31, st32, st33, st34, st35, st36, st37, st38, st39, st40, st41, st42, st43, st44, st45, st46, st47, st48, st49, st50, st51, st52, st53, st54, st55, st56, st57, st58, st59, st60, st61, st62, st63, st64, st65, st66, st67, st68, st69, st70, st71, st72, st73, st74, st75, st76, st77, st78, st79, st80, st81, st82, st83, st84, st85, st86, st87, st88, st89, st90, st91, hn]))) <;> (try (first | omega | exact hz))
    · rw [e1] at hC p3 ⊢
      simp only [show ¬ (di : Int) < 0 by omega, if_false, Int.toNat_natCast] at hC
      have hdi : ¬ (di : Int) < 0 := by omega
      obtain ⟨k1, k2⟩ := p3 (by omega)
      have hdn : ¬ di = frF T 48 := fun q => by have := (frF_lt (e9 rfl)).2; rw [← q, e5] at this; cases this
      cases dir
      · rw [jn_eq (v' := mv0 1 Z D di) hdn (by simp [mkV, mv0, vA])] at hC
        (repeat' (first | with_reducible assumption | (refine r_makeNode (by omega) H3 hw k1 k2 e3 e4 e5 e6 e8 (e9 rfl) ?_) | (refine And.intro ?_ ?_) | (with_reducible intro _) | (simp [wp_eq, wpE, mk_X11_make, mg, mc_X11_make, lget, lset, popN, cats, rcv, entL, isArr, kC_s, kC_n, st1, st2, st3, st4, st5, st6, st7, st8, st9, st10, st11, st12, st13, st14, st15, st16, st17, st18, st19, st20, st21, st22, st23, st24, st25, st26, st27, st28, st29, st30, st31, st32, st33, st34, st35, st36, st37, st38, st39, st40, st41, st42, st43, st44, st45, st46, st47, st48, st49, st50, st51, st52, st53, st54, st55, st56, st57, st58, st59, st60, st61, st62, st63, st64, st65, st66, st67, st68, st69, st70, st71, st72, st73, st74, st75, st76, st77, st78, st79, st80, st81, st82, st83, st84, st85, st86, st87, st88, st89, st90, st91, R3, hd0, hdi, b01]))) <;> (try (first | omega | exact hz))
        all_goals
          rename_i zzh zzE zz1 zz2
          exact hC zzh zzE zz2 (by rw [chJ_fld zz1 (by simp) (by simp)]; exact hr3)
      · rw [jn_eq (v' := mv0 0 0 D di) hdn (by simp [mkV, mv0, vA])] at hC
        (repeat' (first | with_reducible assumption | (refine r_makeNode (by omega) H3 hw k1 k2 e3 e4 e5 e6 e8 (e9 rfl) ?_) | (refine And.intro ?_ ?_) | (with_reducible intro _) | (simp [wp_eq, wpE, mk_X11_make, mg, mc_X11_make, lget, lset, popN, cats, rcv, entL, isArr, kC_s, kC_n, st1, st2, st3, st4, st5, st6, st7, st8, st9, st10, st11, st12, st13, st14, st15, st16, st17, st18, st19, st20, st21, st22, st23, st24, st25, st26, st27, st28, st29, st30, st31, st32, st33, st34, st35, st36, st37, st38, st39, st40, st41, st42, st43, st44, st45, st46, st47, st48, st49, st50, st51, st52, st53, st54, st55, st56, st57, st58, st59, st60, st61, st62, st63, st64, st65, st66, st67, st68, st69, st70, st71, st72, st73, st74, st75, st76, st77, st78, st79, st80, st81, st82, st83, st84, st85, st86, st87, st88, st89, st90, st91, R3, hd0, hdi, b01]))) <;> (try (first | omega | exact hz))
        all_goals
          rename_i zzh zzE zz1 zz2
          exact hC zzh zzE zz2 (by rw [chJ_fld zz1 (by simp) (by simp)]; exact hr3)
  · have q0 : chJ (sR r [100]) h (hsetI h r 0 1) := chJ_set (by simp [sR])
    have hz := hC2 hb _ (RS_ch q0 (by simp) H) (by simp [hty_I, hvi_I, hvr_I, hvl_I, hsz_I, hty_R, hvi_R, hvr_R, hvl_R, hsz_R, hty_L, hvi_L, hvr_L, hvl_L, hsz_L, hty_P, hvi_P, hvr_P, hvl_P, hsz_P, hty_C, hvi_C, hvr_C, hvl_C, hsz_C])
    by_cases hb1 : 0 ≤ Z ∧ Z ≤ 999999
    · have z1 : (if 0 ≤ Z ∧ Z ≤ 999999 then (1 : Int) else 0) = 1 := if_pos hb1
      have z2 : (if 0 ≤ D ∧ D ≤ 999999 then (1 : Int) else 0) = 0 := if_neg (fun q => hb ⟨hb1, q⟩)
      (repeat' (first | with_reducible assumption | (refine r_isIn ?_) | (refine r_refused H.1 ?_) | (refine And.intro ?_ ?_) | (with_reducible intro _) | (simp [wp_eq, wpE, mk_X11_make, mg, mc_X11_make, lget, lset, popN, cats, rcv, entL, isArr, kC_s, kC_n, st1, st2, st3, st4, st5, st6, st7, st8, st9, st10, st11, st12, st13, st14, st15, st16, st17, st18, st19, st20, st21, st22, st23, st24, st25, st26, st27, st28, st29, st30, st31, st32, st33, st34, st35, st36, st37, st38, st39, st40, st41, st42, st43, st44, st45, st46, st47, st48, st49, st50, st51, st52, st53, st54, st55, st56, st57, st58, st59, st60, st61, st62, st63, st64, st65, st66, st67, st68, st69, st70, st71, st72, st73, st74, st75, st76, st77, st78, st79, st80, st81, st82, st83, st84, st85, st86, st87, st88, st89, st90, st91, R0, hd0, z1, z2]))) <;> (try (first | omega | exact hz))
    · have z1 : (if 0 ≤ Z ∧ Z ≤ 999999 then (1 : Int) else 0) = 0 := if_neg hb1
      (repeat' (first | with_reducible assumption | (refine r_isIn ?_) | (refine r_refused H.1 ?_) | (refine And.intro ?_ ?_) | (with_reducible intro _) | (simp [wp_eq, wpE, mk_X11_make, mg, mc_X11_make, lget, lset, popN, cats, rcv, entL, isArr, kC_s, kC_n, st1, st2, st3, st4, st5, st6, st7, st8, st9, st10, st11, st12, st13, st14, st15, st16, st17, st18, st19, st20, st21, st22, st23, st24, st25, st26, st27, st28, st29, st30, st31, st32, st33, st34, st35, st36, st37, st38, st39, st40, st41, st42, st43, st44, st45, st46, st47, st48, st49, st50, st51, st52, st53, st54, st55, st56, st57, st58, st59, st60, st61, st62, st63, st64, st65, st66, st67, st68, st69, st70, st71, st72, st73, st74, st75, st76, st77, st78, st79, st80, st81, st82, st83, st84, st85, st86, st87, st88, st89, st90, st91, R0, hd0, z1]))) <;> (try (first | omega | exact hz))
