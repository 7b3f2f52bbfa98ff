/-! THE TREE of the class: nodes and ties put in and taken out -/
def nS (h : mH) (x : Nat) : Prop := hty h x = some (5, 10) ∨ (∃ k, hty h x = some (25, k)) ∨ hty h x = some (7, 3) ∨ hty h x = some (24, 48)
theorem Tadd_loop {G : Nat → Nat} {d t b : Nat} {h : mH} {C : mQ} {X : mX} {T : aT} {here : Nat} (HT : TR t h T here) (hb : hty h b = some (5, 10)) (hfr : cnt T 48 < 48)
    (hC : ∀ n, n < 48 → T n = none → (∀ m, m < n → ¬ T m = none) → C (some (.inl (n : Int))) (hsetI (hsetR h (t + 1) n (some b)) t 1 ((cnt T 48 : Int) + 1))) :
    ∀ (m i : Nat), m + i = 48 → (∀ j, j < i → ¬ T j = none) → wp G d 50 100002 [some (.inr (.inl (some t))), some (.inr (.inl (some b))), some (.inl (i : Int))] [] h 0 0 C X := by
  obtain ⟨t1, t2, t3, t4, t5, t6, t7, t8⟩ := HT
  intro m
  induction m with
  | zero =>
    intro i hm hj
    obtain ⟨n, n1, n2⟩ := cnt_free 48 hfr
    exact absurd n2 (hj n (by omega))
  | succ m ih =>
    intro i hm hj
    have hi : i < 48 := by omega
    rw [wp_hd]
    cases hT : T i with
    | none =>
      have hr := t6 i hi hT
      have hz := hC i hi hT hj
      (repeat' (first | with_reducible assumption | (refine And.intro ?_ ?_) | (with_reducible intro _) | (simp [wp_eq, wpE, mk_X7_add, mg, mc_X7_add, lget, lset, popN, cats, rcv, entL, isArr, kC_s, kC_n, st1, st2, st3, st4, st5, st6, st7, st8, st9, st10, st11, st12, st13, st14, st15, st16, st17, st18, st19, st20, st21, st22, st23, st24, st25, st26, st27, st28, st29, st30, st31, st32, st33, st34, st35, st36, st37, st38, st39, st40, st41, st42, st43, st44, st45, st46, st47, st48, st49, st50, st51, st52, st53, st54, st55, st56, st57, st58, st59, st60, st61, st62, st63, st64, st65, st66, st67, st68, st69, st70, st71, st72, st73, st74, st75, st76, st77, st78, st79, st80, st81, st82, st83, st84, st85, st86, st87, st88, st89, st90, st91, t1, t2, t3, t4, hb, hi, hr, elT, hty_I, hvi_I, hvr_I, hvl_I, hsz_I, hty_R, hvi_R, hvr_R, hvl_R, hsz_R, hty_L, hvi_L, hvr_L, hvl_L, hsz_L, hty_P, hvi_P, hvr_P, hvl_P, hsz_P, hty_C, hvi_C, hvr_C, hvl_C, hsz_C, inR]))) <;> (try (first | omega | exact hz))
    | some v =>
      obtain ⟨a, a1, a2⟩ := t7 i v hi hT
      have hz := ih (i + 1) (by omega) (fun j q => by
        by_cases he : j = i
        · rw [he, hT]; simp
        · exact hj j (by omega))
      (repeat' (first | with_reducible assumption | (refine And.intro ?_ ?_) | (with_reducible intro _) | (simp [wp_eq, wpE, mk_X7_add, mg, mc_X7_add, lget, lset, popN, cats, rcv, entL, isArr, kC_s, kC_n, st1, st2, st3, st4, st5, st6, st7, st8, st9, st10, st11, st12, st13, st14, st15, st16, st17, st18, st19, st20, st21, st22, st23, st24, st25, st26, st27, st28, st29, st30, st31, st32, st33, st34, st35, st36, st37, st38, st39, st40, st41, st42, st43, st44, st45, st46, st47, st48, st49, st50, st51, st52, st53, st54, st55, st56, st57, st58, st59, st60, st61, st62, st63, st64, st65, st66, st67, st68, st69, st70, st71, st72, st73, st74, st75, st76, st77, st78, st79, st80, st81, st82, st83, st84, st85, st86, st87, st88, st89, st90, st91, t1, t2, t3, t4, hb, hi, a1, elT, hty_I, hvi_I, hvr_I, hvl_I, hsz_I, hty_R, hvi_R, hvr_R, hvl_R, hsz_R, hty_L, hvi_L, hvr_L, hvl_L, hsz_L, hty_P, hvi_P, hvr_P, hvl_P, hsz_P, hty_C, hvi_C, hvr_C, hvl_C, hsz_C, inR]))) <;> (try (first | omega | exact hz))
theorem c_Tadd {G : Nat → Nat} {d t b : Nat} {h : mH} {C : mQ} {X : mX} {T : aT} {here : Nat} (HT : TR t h T here) (hb : hty h b = some (5, 10)) (hfr : cnt T 48 < 48)
    (hC : ∀ n, n < 48 → T n = none → (∀ m, m < n → ¬ T m = none) → C (some (.inl (n : Int))) (hsetI (hsetR h (t + 1) n (some b)) t 1 ((cnt T 48 : Int) + 1))) :
    callG (wp G) d 50 0 0 3 [.inr (.inl (some t)), .inr (.inl (some b))] h C X := by
  have hz := Tadd_loop (G := G) (d := d - 1) (X := fun _ _ => False) HT hb hfr hC 48 0 (by omega) (fun j q => by omega)
  refine ⟨C, fun _ _ => False, ?_, fun _ _ q => q, fun _ _ q => q.elim⟩
  (repeat' (first | with_reducible assumption | (refine And.intro ?_ ?_) | (with_reducible intro _) | (simp [wp_eq, wpE, mk_X7_add, mg, mc_X7_add, lget, lset, popN, cats, rcv, entL, isArr, kC_s, kC_n, st1, st2, st3, st4, st5, st6, st7, st8, st9, st10, st11, st12, st13, st14, st15, st16, st17, st18, st19, st20, st21, st22, st23, st24, st25, st26, st27, st28, st29, st30, st31, st32, st33, st34, st35, st36, st37, st38, st39, st40, st41, st42, st43, st44, st45, st46, st47, st48, st49, st50, st51, st52, st53, st54, st55, st56, st57, st58, st59, st60, st61, st62, st63, st64, st65, st66, st67, st68, st69, st70, st71, st72, st73, st74, st75, st76, st77, st78, st79, st80, st81, st82, st83, st84, st85, st86, st87, st88, st89, st90, st91]))) <;> (try (first | omega | exact hz))
theorem TR_new {h : mH} {t n b : Nat} {T : aT} {here : Nat} {v : aN} (hn : n < 48) (hT : T n = none) (H : TR t h T here) (hb : ND h b v) (hnb : ∀ m, m < 48 → ¬ hvr h (t + 1) m = some b) :
    TR t (hsetI (hsetR h (t + 1) n (some b)) t 1 ((cnt T 48 : Int) + 1)) (ud T n (some v)) here := by
  obtain ⟨t1, t2, t3, t4, t5, t6, t7, t8⟩ := H
  have q : ch (fun x => x = t ∨ x = t + 1) h (hsetI (hsetR h (t + 1) n (some b)) t 1 ((cnt T 48 : Int) + 1)) := ch_trans (ch_R (Or.inr rfl)) (ch_I (Or.inl rfl))
  have hS : ∀ x, (x = t ∨ x = t + 1) → ¬ hty h x = some (0, 2) ∧ ∀ n, n ≤ 14 → ¬ hty h x = some (21, n) := fun x hx => by
    rcases hx with rfl | rfl
    · rw [t1]; simp
    · rw [t3]; simp
  have key : ∀ c w, ND h c w → ND (hsetI (hsetR h (t + 1) n (some b)) t 1 ((cnt T 48 : Int) + 1)) c w := by
    intro c w c2
    have c22 := c2
    obtain ⟨w1, w2, w3, w4, w5, w6, w7, w8, w9, w10, w11, w12, w13, w14, w15, w16⟩ := c22
    refine ND_ex (ex_ch q) hS (fun s => ?_) (fun s => ?_) (fun s => ?_) c2
    · rcases s with z | z
      · rw [z, t1] at w1; cases w1
      · rw [z, t3] at w1; cases w1
    · rcases s with z | z
      · rw [z, t1] at w11; cases w11
      · rw [z, t3] at w11; cases w11
    · rcases s with z | z
      · rw [z, t1] at w14; cases w14
      · rw [z, t3] at w14; cases w14
  refine ⟨t1, by simp [hty_I, hvi_I, hvr_I, hvl_I, hsz_I, hty_R, hvi_R, hvr_R, hvl_R, hsz_R, hty_L, hvi_L, hvr_L, hvl_L, hsz_L, hty_P, hvi_P, hvr_P, hvl_P, hsz_P, hty_C, hvi_C, hvr_C, hvl_C, hsz_C, t2], t3, by simp [hty_I, hvi_I, hvr_I, hvl_I, hsz_I, hty_R, hvi_R, hvr_R, hvl_R, hsz_R, hty_L, hvi_L, hvr_L, hvl_L, hsz_L, hty_P, hvi_P, hvr_P, hvl_P, hsz_P, hty_C, hvi_C, hvr_C, hvl_C, hsz_C, cnt_upd_new hT 48 hn], by simp [hty_I, hvi_I, hvr_I, hvl_I, hsz_I, hty_R, hvi_R, hvr_R, hvl_R, hsz_R, hty_L, hvi_L, hvr_L, hvl_L, hsz_L, hty_P, hvi_P, hvr_P, hvl_P, hsz_P, hty_C, hvi_C, hvr_C, hvl_C, hsz_C, t5], ?_, ?_, ?_⟩
  · intro m hm hTm
    by_cases he : m = n
    · subst he; rw [ud_s] at hTm; cases hTm
    · rw [ud_n he] at hTm; simp [hty_I, hvi_I, hvr_I, hvl_I, hsz_I, hty_R, hvi_R, hvr_R, hvl_R, hsz_R, hty_L, hvi_L, hvr_L, hvl_L, hsz_L, hty_P, hvi_P, hvr_P, hvl_P, hsz_P, hty_C, hvi_C, hvr_C, hvl_C, hsz_C, he]; exact t6 m hm hTm
  · intro m w hm hTm
    by_cases he : m = n
    · subst he; rw [ud_s] at hTm; cases hTm; exact ⟨b, by simp [hty_I, hvi_I, hvr_I, hvl_I, hsz_I, hty_R, hvi_R, hvr_R, hvl_R, hsz_R, hty_L, hvi_L, hvr_L, hvl_L, hsz_L, hty_P, hvi_P, hvr_P, hvl_P, hsz_P, hty_C, hvi_C, hvr_C, hvl_C, hsz_C], key _ _ hb⟩
    · rw [ud_n he] at hTm
      obtain ⟨c, c1, c2⟩ := t7 m w hm hTm
      exact ⟨c, by simp [hty_I, hvi_I, hvr_I, hvl_I, hsz_I, hty_R, hvi_R, hvr_R, hvl_R, hsz_R, hty_L, hvi_L, hvr_L, hvl_L, hsz_L, hty_P, hvi_P, hvr_P, hvl_P, hsz_P, hty_C, hvi_C, hvr_C, hvl_C, hsz_C, he, c1], key _ _ c2⟩
  · intro m k a hm hk p1 p2
    simp only [hvr_I, hvr_R] at p1 p2
    by_cases he : m = n <;> by_cases hk2 : k = n
    · omega
    · simp [he] at p1
      simp [hk2] at p2
      rw [← p1] at p2
      exact absurd p2 (hnb k hk)
    · simp [he] at p1
      simp [hk2] at p2
      rw [← p2] at p1
      exact absurd p1 (hnb m hm)
    · simp [he] at p1
      simp [hk2] at p2
      exact t8 m k a hm hk p1 p2
theorem ND_set {h h' : mH} {a : Nat} {v v' : aN} (H : ND h a v) (q : ch (fun x => x = a) h h') (h1 : nK v' = nK v ∧ nZ v' = nZ v ∧ nD v' = nD v ∧ nX v' = nX v ∧ nE v' = nE v) (i1 : ∀ j, j < 6 → hvi h' a j = hvi h a j) (i2 : ∀ j, j < 9 → hvr h' a j = hvr h a j) (i6 : hvi h' a 6 = nB v') (i7 : hvi h' a 7 = nT v') (i8 : hvi h' a 8 = (nA v' : Int)) : ND h' a v' := by
  obtain ⟨v1, v2, v3, v4, v5, v6, v7, v8, v9, v10, v11, v12, v13, v14, v15, v16⟩ := H
  obtain ⟨g1, g2, g3, g4, g5⟩ := h1
  have hmx : nMx v' = nMx v := by unfold nMx; rw [g1]
  have hS : ∀ x, x = a → ¬ hty h x = some (0, 2) ∧ ∀ n, n ≤ 14 → ¬ hty h x = some (21, n) := fun x hx => by subst hx; rw [v1]; simp
  refine ⟨by rw [q.2.1]; exact v1, by rw [i1 _ (by decide), g1]; exact v2, by rw [i1 _ (by decide), g2]; exact v3, by rw [i1 _ (by decide), g3]; exact v4, by rw [i2 _ (by decide)]; exact v5, by rw [i2 _ (by decide)]; exact v6, by rw [i1 _ (by decide), g5]; exact v7, i6, i7, i8, by rw [q.2.1, g4]; exact v11, fun i hi => by rw [(q.2.2.2 (a + 1) (by omega) _).2, g4]; exact v12 i (by rw [← g4]; exact hi), by rw [g4]; exact v13, by rw [q.2.1, hmx]; exact v14, by rw [g5, hmx]; exact v15, fun k p hk => ?_⟩
  rw [g5] at hk
  obtain ⟨e, e1, e2⟩ := v16 k p hk
  exact ⟨e, by rw [(q.2.2.2 (a + 2) (by omega) _).1]; exact e1, EN_ex (ex_ch q) hS e2⟩
theorem c_Einit {G : Nat → Nat} {d e : Nat} {h : mH} {C : mQ} {X : mX} {b : Option Nat} {z : Int} (ht : hty h e = some (0, 2)) (hC : C none (hsetI (hsetR h e 0 b) e 1 z)) : callG (wp G) d 0 0 0 3 [.inr (.inl (some e)), .inr (.inl b), .inl z] h C X := by
  refine ⟨C, fun _ _ => False, ?_, fun _ _ q => q, fun _ _ q => q.elim⟩
  (repeat' (first | with_reducible assumption | (refine And.intro ?_ ?_) | (with_reducible intro _) | (simp [wp_eq, wpE, mk_X0_init, mg, mc_X0_init, lget, lset, popN, cats, rcv, entL, isArr, kC_s, kC_n, st1, st2, st3, st4, st5, st6, st7, st8, st9, st10, st11, st12, st13, st14, st15, st16, st17, st18, st19, st20, st21, st22, st23, st24, st25, st26, st27, st28, st29, st30, st31, st32, st33, st34, st35, st36, st37, st38, st39, st40, st41, st42, st43, st44, st45, st46, st47, st48, st49, st50, st51, st52, st53, st54, st55, st56, st57, st58, st59, st60, st61, st62, st63, st64, st65, st66, st67, st68, st69, st70, st71, st72, st73, st74, st75, st76, st77, st78, st79, st80, st81, st82, st83, st84, st85, st86, st87, st88, st89, st90, st91, ht, hty_I, hvi_I, hvr_I, hvl_I, hsz_I, hty_R, hvi_R, hvr_R, hvl_R, hsz_R, hty_L, hvi_L, hvr_L, hvl_L, hsz_L, hty_P, hvi_P, hvr_P, hvl_P, hsz_P, hty_C, hvi_C, hvr_C, hvl_C, hsz_C]))) <;> (try (first | omega | exact hz))
/-- a name put into a directory -/
def addE (T : aT) (d : Nat) (s : List Int) (n : Nat) : aT := match T d with
  | some vd => ud T d (some (vE vd (insE (nE vd) (s, n))))
  | none => T
def jnT (T : aT) (d : Nat) (s : List Int) (n : Nat) (v : aN) : aT := ud (addE T d s n) n (some (vA (vT v (nT v + 1)) d))
theorem c_Tjoin {G : Nat → Nat} {dd t b di n : Nat} {h : mH} {C : mQ} {X : mX} {T : aT} {here : Nat} {vd v : aN} {s : List Int} (hdd : 3 ≤ dd) (HT : TR t h T here) (hf : fsh h) (hdi : di < 48) (hn : n < 48) (hdn : ¬ di = n) (hTd : T di = some vd) (hTn : T n = some v) (hE : (nE vd).length < nMx vd) (hb : hty h b = some (21, s.length)) (hr : ro h b 0 s) (bs : bd s) (hs : s.length ≤ 14) (hv : -1000 ≤ nT v ∧ nT v ≤ 1000)
    (hC : ∀ h', ex (nS h) h h' → fsh h' → hsz h' = hsz h + 1 → TR t h' (jnT T di s n v) here → (∃ a, hvr h' (t + 1) n = some a ∧ hvr h' a 9 = some (hsz h)) → EN h' (hsz h) (s, n) → (∀ m a, m < 48 → ¬ m = n → hvr h (t + 1) m = some a → hvr h' (t + 1) m = some a ∧ hvr h' a 9 = hvr h a 9) → C none h') :
    callG (wp G) dd 51 1 2 7 [.inr (.inl (some t)), .inl (di : Int), .inr (.inl (some b)), .inl (n : Int)] h C X := by
  have hTT := HT
  obtain ⟨t1, t2, t3, t4, t5, t6, t7, t8⟩ := hTT
  obtain ⟨ad, ad1, ad2⟩ := t7 di vd hdi hTd
  obtain ⟨an, an1, an2⟩ := t7 n v hn hTn
  have hne : ¬ ad = an := fun q => hdn (t8 di n ad hdi hn ad1 (by rw [q]; exact an1))
  have ad3 := ad2.1
  have an3 := an2.1
  have lt : t < hsz h := fsh_lt hf t1
  have lt1 : t + 1 < hsz h := fsh_lt hf t3
  have ld : ad < hsz h := fsh_lt hf ad3
  have ln : an < hsz h := fsh_lt hf an3
  have lb : b < hsz h := fsh_lt hf hb
  obtain ⟨e, he⟩ : ∃ e, e = hsz h := ⟨_, rfl⟩
  -- the entry
  have q1 : ex (fun x => x = e) h (hsetI (hsetR (hpush h 0 2) e 0 (some b)) e 1 (n : Int)) := ex_trans (ex_push hf) (ex_trans (ex_ch (ch_R rfl)) (ex_ch (ch_I rfl)))
  have hee : hty h e = none := hf e (by omega)
  have HT1 := TR_ex q1 (fun x hx => by subst hx; rw [hee]; simp [frn]) HT
  have f1 : fsh (hsetI (hsetR (hpush h 0 2) e 0 (some b)) e 1 (n : Int)) := fsh_push hf
  have hen : EN (hsetI (hsetR (hpush h 0 2) e 0 (some b)) e 1 (n : Int)) e (s, n) := by
    refine ⟨by simp [hty_I, hvi_I, hvr_I, hvl_I, hsz_I, hty_R, hvi_R, hvr_R, hvl_R, hsz_R, hty_L, hvi_L, hvr_L, hvl_L, hsz_L, hty_P, hvi_P, hvr_P, hvl_P, hsz_P, hty_C, hvi_C, hvr_C, hvl_C, hsz_C, he], bs, hs, hn, by simp [hty_I, hvi_I, hvr_I, hvl_I, hsz_I, hty_R, hvi_R, hvr_R, hvl_R, hsz_R, hty_L, hvi_L, hvr_L, hvl_L, hsz_L, hty_P, hvi_P, hvr_P, hvl_P, hsz_P, hty_C, hvi_C, hvr_C, hvl_C, hsz_C], b, by simp [hty_I, hvi_I, hvr_I, hvl_I, hsz_I, hty_R, hvi_R, hvr_R, hvl_R, hsz_R, hty_L, hvi_L, hvr_L, hvl_L, hsz_L, hty_P, hvi_P, hvr_P, hvl_P, hsz_P, hty_C, hvi_C, hvr_C, hvl_C, hsz_C], by simp [hty_I, hvi_I, hvr_I, hvl_I, hsz_I, hty_R, hvi_R, hvr_R, hvl_R, hsz_R, hty_L, hvi_L, hvr_L, hvl_L, hsz_L, hty_P, hvi_P, hvr_P, hvl_P, hsz_P, hty_C, hvi_C, hvr_C, hvl_C, hsz_C, he]; rw [if_neg (by omega)]; exact hb, fun i hi => ?_⟩
    simp only [hvi_I, hvi_R, hvi_P]
    rw [if_neg (by omega), if_neg (by omega)]
    exact hr i hi
  have hz1 : hsz (hsetI (hsetR (hpush h 0 2) e 0 (some b)) e 1 (n : Int)) = hsz h + 1 := by simp [hty_I, hvi_I, hvr_I, hvl_I, hsz_I, hty_R, hvi_R, hvr_R, hvl_R, hsz_R, hty_L, hvi_L, hvr_L, hvl_L, hsz_L, hty_P, hvi_P, hvr_P, hvl_P, hsz_P, hty_C, hvi_C, hvr_C, hvl_C, hsz_C]
  generalize hh1 : hsetI (hsetR (hpush h 0 2) e 0 (some b)) e 1 (n : Int) = h1 at *
  have r1 : ∀ x, x < hsz h → hty h1 x = hty h x := fun x hx => by rw [← hh1]; simp [hty_I, hvi_I, hvr_I, hvl_I, hsz_I, hty_R, hvi_R, hvr_R, hvl_R, hsz_R, hty_L, hvi_L, hvr_L, hvl_L, hsz_L, hty_P, hvi_P, hvr_P, hvl_P, hsz_P, hty_C, hvi_C, hvr_C, hvl_C, hsz_C, show ¬ x = hsz h by omega]
  have ad1' : hvr h1 (t + 1) di = some ad := by rw [← hh1]; simp [hty_I, hvi_I, hvr_I, hvl_I, hsz_I, hty_R, hvi_R, hvr_R, hvl_R, hsz_R, hty_L, hvi_L, hvr_L, hvl_L, hsz_L, hty_P, hvi_P, hvr_P, hvl_P, hsz_P, hty_C, hvi_C, hvr_C, hvl_C, hsz_C, show ¬ t + 1 = e by omega, show ¬ t + 1 = hsz h by omega]; exact ad1
  have an1' : hvr h1 (t + 1) n = some an := by rw [← hh1]; simp [hty_I, hvi_I, hvr_I, hvl_I, hsz_I, hty_R, hvi_R, hvr_R, hvl_R, hsz_R, hty_L, hvi_L, hvr_L, hvl_L, hsz_L, hty_P, hvi_P, hvr_P, hvl_P, hsz_P, hty_C, hvi_C, hvr_C, hvl_C, hsz_C, show ¬ t + 1 = e by omega, show ¬ t + 1 = hsz h by omega]; exact an1
  have HT1' := HT1
  obtain ⟨u1, u2, u3, u4, u5, u6, u7, u8⟩ := HT1'
  have ad2' : ND h1 ad vd := by obtain ⟨x, x1, x2⟩ := u7 di vd hdi hTd; rw [ad1'] at x1; cases x1; exact x2
  have q9 : ∀ x j, x < hsz h → hvr h1 x j = hvr h x j := fun x j hx => by rw [← hh1]; simp [hty_I, hvi_I, hvr_I, hvl_I, hsz_I, hty_R, hvi_R, hvr_R, hvl_R, hsz_R, hty_L, hvi_L, hvr_L, hvl_L, hsz_L, hty_P, hvi_P, hvr_P, hvl_P, hsz_P, hty_C, hvi_C, hvr_C, hvl_C, hsz_C, show ¬ x = e by omega, show ¬ x = hsz h by omega]
  refine cg 2 (by omega) (fun d hd => ?_)
  have hd0 : (0 < d) = True := eq_true (by omega)
  (repeat' (first | with_reducible assumption | (refine c_atN hdi HT ?_) | (refine c_atN hn HT ?_) | (refine c_Einit (by simp [hty_P]) ?_) | (refine And.intro ?_ ?_) | (with_reducible intro _) | (simp [wp_eq, wpE, mk_X7_join, mg, mc_X7_join, lget, lset, popN, cats, rcv, entL, isArr, kC_s, kC_n, st1, st2, st3, st4, st5, st6, st7, st8, st9, st10, st11, st12, st13, st14, st15, st16, st17, st18, st19, st20, st21, st22, st23, st24, st25, st26, st27, st28, st29, st30, st31, st32, st33, st34, st35, st36, st37, st38, st39, st40, st41, st42, st43, st44, st45, st46, st47, st48, st49, st50, st51, st52, st53, st54, st55, st56, st57, st58, st59, st60, st61, st62, st63, st64, st65, st66, st67, st68, st69, st70, st71, st72, st73, st74, st75, st76, st77, st78, st79, st80, st81, st82, st83, st84, st85, st86, st87, st88, st89, st90, st91, t1, hd0, ad1, an1, hty_P, hty_I, hty_R, show ¬ ad = hsz h by omega, ad3]))) <;> (try (first | omega | exact hz))
  rw [← he, hh1]
  have t1' : hty h1 ad = some (5, 10) := ad2'.1
  have t1n : hty h1 an = some (5, 10) := by rw [r1 an ln]; exact an3
  refine c_insert (by omega) ad2' hen hE (fun h2 p1 p2 p3 => ?_)
  have hmx := ad2'.2.2.2.2.2.2.2.2.2.2.2.2.2.1
  have HT2 := TR_upd (ex_ch p1) hdi HT1 ad1' (fun x hx => by rcases hx with z | z; exact Or.inl z; exact Or.inr (Or.inl z)) p2
  have f2 := fsh_ch p1 f1
  have an2' : ∃ x, hvr h2 (t + 1) n = some x ∧ ND h2 x v := HT2.2.2.2.2.2.2.1 n v hn (by rw [ud_n (fun q => hdn q.symm)]; exact hTn)
  have nt1 : ¬ (t + 1 = ad ∨ t + 1 = ad + 2) := fun z => by
    rcases z with z | z
    · rw [z, t1'] at u3; cases u3
    · rw [z, hmx] at u3; cases u3
  have nan : ¬ (an = ad ∨ an = ad + 2) := fun z => by
    rcases z with z | z
    · exact hne z.symm
    · rw [z, hmx] at t1n; cases t1n
  have an4 : ND h2 an v := by
    obtain ⟨x, x1, x2⟩ := an2'
    rw [(p1.2.2.2 _ nt1 _).1, an1'] at x1; cases x1; exact x2
  have an5 : hty h2 an = some (5, 10) := an4.1
  have an6 : hvi h2 an 7 = nT v := an4.2.2.2.2.2.2.2.2.1
  have p4 : ch (fun x => x = an) h2 (hsetR (hsetI (hsetI h2 an 7 (nT v + 1)) an 8 (di : Int)) an 9 (some e)) := ch_trans (ch_trans (ch_I rfl) (ch_I rfl)) (ch_R rfl)
  have an7 : ND (hsetR (hsetI (hsetI h2 an 7 (nT v + 1)) an 8 (di : Int)) an 9 (some e)) an (vA (vT v (nT v + 1)) di) := by
    refine ND_set an4 p4 ⟨rfl, rfl, rfl, rfl, rfl⟩ (fun j hj => by simp [hty_I, hvi_I, hvr_I, hvl_I, hsz_I, hty_R, hvi_R, hvr_R, hvl_R, hsz_R, hty_L, hvi_L, hvr_L, hvl_L, hsz_L, hty_P, hvi_P, hvr_P, hvl_P, hsz_P, hty_C, hvi_C, hvr_C, hvl_C, hsz_C, show ¬ j = 7 by omega, show ¬ j = 8 by omega]) (fun j hj => by simp [hty_I, hvi_I, hvr_I, hvl_I, hsz_I, hty_R, hvi_R, hvr_R, hvl_R, hsz_R, hty_L, hvi_L, hvr_L, hvl_L, hsz_L, hty_P, hvi_P, hvr_P, hvl_P, hsz_P, hty_C, hvi_C, hvr_C, hvl_C, hsz_C, show ¬ j = 9 by omega]) ?_ (by simp [hty_I, hvi_I, hvr_I, hvl_I, hsz_I, hty_R, hvi_R, hvr_R, hvl_R, hsz_R, hty_L, hvi_L, hvr_L, hvl_L, hsz_L, hty_P, hvi_P, hvr_P, hvl_P, hsz_P, hty_C, hvi_C, hvr_C, hvl_C, hsz_C]; rfl) (by simp [hty_I, hvi_I, hvr_I, hvl_I, hsz_I, hty_R, hvi_R, hvr_R, hvl_R, hsz_R, hty_L, hvi_L, hvr_L, hvl_L, hsz_L, hty_P, hvi_P, hvr_P, hvl_P, hsz_P, hty_C, hvi_C, hvr_C, hvl_C, hsz_C]; rfl)
    simp [hty_I, hvi_I, hvr_I, hvl_I, hsz_I, hty_R, hvi_R, hvr_R, hvl_R, hsz_R, hty_L, hvi_L, hvr_L, hvl_L, hsz_L, hty_P, hvi_P, hvr_P, hvl_P, hsz_P, hty_C, hvi_C, hvr_C, hvl_C, hsz_C]; exact an4.2.2.2.2.2.2.2.1
  have HT3 := TR_upd (ex_ch p4) hn HT2 (by rw [(p1.2.2.2 _ nt1 _).1]; exact an1') (fun x hx => Or.inl hx) an7
  have hjn : jnT T di s n v = ud (ud T di (some (vE vd (insE (nE vd) (s, n))))) n (some (vA (vT v (nT v + 1)) di)) := by simp [jnT, addE, hTd]
  rw [← hjn] at HT3
  have hx1 : ex (nS h) h (hsetR (hsetI (hsetI h2 an 7 (nT v + 1)) an 8 (di : Int)) an 9 (some e)) := by
    refine ex_trans (ex_mono (fun x hx z => absurd (by rw [z]; exact hee) hx) q1) (ex_trans (ex_mono (fun x _ z => ?_) (ex_ch p1)) (ex_mono (fun x _ z => ?_) (ex_ch p4)))
    · rcases z with rfl | rfl
      · exact Or.inl ad3
      · exact Or.inr (Or.inl ⟨_, ad2.2.2.2.2.2.2.2.2.2.2.2.2.2.1⟩)
    · subst z; exact Or.inl an3
  have he4 : EN (hsetR (hsetI (hsetI h2 an 7 (nT v + 1)) an 8 (di : Int)) an 9 (some e)) e (s, n) := by
    refine EN_ex (ex_ch p4) (fun x hx => by subst hx; rw [an5]; simp) (EN_ex (ex_ch p1) (fun x hx => ?_) hen)
    rcases hx with rfl | rfl
    · rw [t1']; simp
    · rw [hmx]; simp
  have hoth : ∀ m a, m < 48 → ¬ m = n → hvr h (t + 1) m = some a → hvr (hsetR (hsetI (hsetI h2 an 7 (nT v + 1)) an 8 (di : Int)) an 9 (some e)) (t + 1) m = some a ∧ hvr (hsetR (hsetI (hsetI h2 an 7 (nT v + 1)) an 8 (di : Int)) an 9 (some e)) a 9 = hvr h a 9 := by
    intro m a hm hmn ha
    have han : ¬ a = an := fun z => hmn (t8 m n an hm hn (by rw [← z]; exact ha) an1)
    have hta : hty h a = some (5, 10) := by
      cases hTm : T m with
      | none => rw [t6 m hm hTm] at ha; cases ha
      | some w =>
        obtain ⟨x, x1, x2⟩ := t7 m w hm hTm
        rw [ha] at x1; cases x1; exact x2.1
    have la := fsh_lt hf hta
    refine ⟨by rw [(p4.2.2.2 (t + 1) (fun z => by rw [z, t1n] at u3; cases u3) _).1, (p1.2.2.2 _ nt1 _).1, q9 _ _ lt1]; exact ha, ?_⟩
    rw [(p4.2.2.2 a han _).1, ← q9 a 9 la]
    by_cases had : a = ad
    · rw [had]; exact p3 9
    · exact (p1.2.2.2 a (fun z => by
        rcases z with z | z
        · exact had z
        · rw [z, ad2.2.2.2.2.2.2.2.2.2.2.2.2.2.1] at hta; cases hta) 9).1
  have hz := hC _ hx1 (fsh_ch p4 f2) (by rw [p4.1, p1.1, hz1]) HT3 ⟨an, by rw [(p4.2.2.2 (t + 1) (fun z => by rw [z, t1n] at u3; cases u3) _).1, (p1.2.2.2 _ nt1 _).1]; exact an1', by simp [hty_I, hvi_I, hvr_I, hvl_I, hsz_I, hty_R, hvi_R, hvr_R, hvl_R, hsz_R, hty_L, hvi_L, hvr_L, hvl_L, hsz_L, hty_P, hvi_P, hvr_P, hvl_P, hsz_P, hty_C, hvi_C, hvr_C, hvl_C, hsz_C, he]⟩ (by rw [← he]; exact he4) hoth
  (repeat' (first | with_reducible assumption | (refine And.intro ?_ ?_) | (with_reducible intro _) | (simp [wp_eq, wpE, mk_X7_join, mg, mc_X7_join, lget, lset, popN, cats, rcv, entL, isArr, kC_s, kC_n, st1, st2, st3, st4, st5, st6, st7, st8, st9, st10, st11, st12, st13, st14, st15, st16, st17, st18, st19, st20, st21, st22, st23, st24, st25, st26, st27, st28, st29, st30, st31, st32, st33, st34, st35, st36, st37, st38, st39, st40, st41, st42, st43, st44, st45, st46, st47, st48, st49, st50, st51, st52, st53, st54, st55, st56, st57, st58, st59, st60, st61, st62, st63, st64, st65, st66, st67, st68, st69, st70, st71, st72, st73, st74, st75, st76, st77, st78, st79, st80, st81, st82, st83, st84, st85, st86, st87, st88, st89, st90, st91, an5, an6, hty_I, hvi_I, hvr_I, hvl_I, hsz_I, hty_R, hvi_R, hvr_R, hvl_R, hsz_R, hty_L, hvi_L, hvr_L, hvl_L, hsz_L, hty_P, hvi_P, hvr_P, hvl_P, hsz_P, hty_C, hvi_C, hvr_C, hvl_C, hsz_C, inR]))) <;> (try (first | omega | exact hz))
/-- a name taken out of a directory -/
def ptT (T : aT) (d : Nat) (s : List Int) (n : Nat) (vd v : aN) : aT := ud (ud T d (some (vE vd (delE (nE vd) s)))) n (if nT v - 1 = 0 then none else some (vT v (nT v - 1)))
theorem TR_del {h : mH} {t n a : Nat} {T : aT} {here : Nat} {v : aN} (hn : n < 48) (hT : T n = some v) (H : TR t h T here) :
    TR t (hsetI (hsetR h (t + 1) n none) t 1 ((cnt T 48 : Int) - 1)) (ud T n none) here := by
  obtain ⟨t1, t2, t3, t4, t5, t6, t7, t8⟩ := H
  have q : ch (fun x => x = t ∨ x = t + 1) h (hsetI (hsetR h (t + 1) n none) t 1 ((cnt T 48 : Int) - 1)) := ch_trans (ch_R (Or.inr rfl)) (ch_I (Or.inl rfl))
  have hS : ∀ x, (x = t ∨ x = t + 1) → ¬ hty h x = some (0, 2) ∧ ∀ n, n ≤ 14 → ¬ hty h x = some (21, n) := fun x hx => by
    rcases hx with rfl | rfl
    · rw [t1]; simp
    · rw [t3]; simp
  have key : ∀ c w, ND h c w → ND (hsetI (hsetR h (t + 1) n none) t 1 ((cnt T 48 : Int) - 1)) c w := by
    intro c w c2
    have c22 := c2
    obtain ⟨w1, w2, w3, w4, w5, w6, w7, w8, w9, w10, w11, w12, w13, w14, w15, w16⟩ := c22
    refine ND_ex (ex_ch q) hS (fun s => ?_) (fun s => ?_) (fun s => ?_) c2
    · rcases s with z | z
      · rw [z, t1] at w1; cases w1
      · rw [z, t3] at w1; cases w1
    · rcases s with z | z
      · rw [z, t1] at w11; cases w11
      · rw [z, t3] at w11; cases w11
    · rcases s with z | z
      · rw [z, t1] at w14; cases w14
      · rw [z, t3] at w14; cases w14
  have hcd := cnt_upd_del hT 48 hn
  refine ⟨t1, by simp [hty_I, hvi_I, hvr_I, hvl_I, hsz_I, hty_R, hvi_R, hvr_R, hvl_R, hsz_R, hty_L, hvi_L, hvr_L, hvl_L, hsz_L, hty_P, hvi_P, hvr_P, hvl_P, hsz_P, hty_C, hvi_C, hvr_C, hvl_C, hsz_C, t2], t3, by simp [hty_I, hvi_I, hvr_I, hvl_I, hsz_I, hty_R, hvi_R, hvr_R, hvl_R, hsz_R, hty_L, hvi_L, hvr_L, hvl_L, hsz_L, hty_P, hvi_P, hvr_P, hvl_P, hsz_P, hty_C, hvi_C, hvr_C, hvl_C, hsz_C]; omega, by simp [hty_I, hvi_I, hvr_I, hvl_I, hsz_I, hty_R, hvi_R, hvr_R, hvl_R, hsz_R, hty_L, hvi_L, hvr_L, hvl_L, hsz_L, hty_P, hvi_P, hvr_P, hvl_P, hsz_P, hty_C, hvi_C, hvr_C, hvl_C, hsz_C, t5], ?_, ?_, ?_⟩
  · intro m hm hTm
    by_cases he : m = n
    · simp [hty_I, hvi_I, hvr_I, hvl_I, hsz_I, hty_R, hvi_R, hvr_R, hvl_R, hsz_R, hty_L, hvi_L, hvr_L, hvl_L, hsz_L, hty_P, hvi_P, hvr_P, hvl_P, hsz_P, hty_C, hvi_C, hvr_C, hvl_C, hsz_C, he]
    · rw [ud_n he] at hTm; simp [hty_I, hvi_I, hvr_I, hvl_I, hsz_I, hty_R, hvi_R, hvr_R, hvl_R, hsz_R, hty_L, hvi_L, hvr_L, hvl_L, hsz_L, hty_P, hvi_P, hvr_P, hvl_P, hsz_P, hty_C, hvi_C, hvr_C, hvl_C, hsz_C, he]; exact t6 m hm hTm
  · intro m w hm hTm
    by_cases he : m = n
    · subst he; rw [ud_s] at hTm; cases hTm
    · rw [ud_n he] at hTm
      obtain ⟨c, c1, c2⟩ := t7 m w hm hTm
      exact ⟨c, by simp [hty_I, hvi_I, hvr_I, hvl_I, hsz_I, hty_R, hvi_R, hvr_R, hvl_R, hsz_R, hty_L, hvi_L, hvr_L, hvl_L, hsz_L, hty_P, hvi_P, hvr_P, hvl_P, hsz_P, hty_C, hvi_C, hvr_C, hvl_C, hsz_C, he, c1], key _ _ c2⟩
  · intro m k a hm hk p1 p2
    simp only [hvr_I, hvr_R] at p1 p2
    by_cases he : m = n
    · simp [he] at p1
    · by_cases hk2 : k = n
      · simp [hk2] at p2
      · simp [he] at p1
        simp [hk2] at p2
        exact t8 m k a hm hk p1 p2
theorem ud_ud {T : aT} {n : Nat} {a b : Option aN} : ud (ud T n a) n b = ud T n b := by funext m; unfold ud; split <;> rfl
theorem c_Tpart {G : Nat → Nat} {dd t e di n ix : Nat} {h : mH} {C : mQ} {X : mX} {T : aT} {here : Nat} {vd v : aN} {s : List Int} {ad : Nat} (hdd : 2 ≤ dd) (HT : TR t h T here) (hdi : di < 48) (hn : n < 48) (hdn : ¬ di = n) (hTd : T di = some vd) (hTn : T n = some v) (hu : unq (nE vd)) (ad1 : hvr h (t + 1) di = some ad) (hix : (nE vd)[ix]? = some (s, n)) (hie : hvr h (ad + 2) ix = some e) (hv : -1000 ≤ nT v ∧ nT v ≤ 1000)
    (hC : ∀ h', ch (nS h) h h' → TR t h' (ptT T di s n vd v) here → (∀ m a, m < 48 → ¬ m = n → hvr h (t + 1) m = some a → hvr h' (t + 1) m = some a ∧ hvr h' a 9 = hvr h a 9) → (∀ a, ¬ nT v - 1 = 0 → hvr h (t + 1) n = some a → hvr h' (t + 1) n = some a ∧ hvr h' a 9 = hvr h a 9) → C none h') :
    callG (wp G) dd 52 0 0 5 [.inr (.inl (some t)), .inl (di : Int), .inr (.inl (some e))] h C X := by
  have hTT := HT
  obtain ⟨t1, t2, t3, t4, t5, t6, t7, t8⟩ := hTT
  obtain ⟨ad', ad1', ad2⟩ := t7 di vd hdi hTd
  rw [ad1] at ad1'; cases ad1'
  obtain ⟨an, an1, an2⟩ := t7 n v hn hTn
  have hne : ¬ ad = an := fun q => hdn (t8 di n ad hdi hn ad1 (by rw [q]; exact an1))
  have ad3 := ad2.1
  have an3 := an2.1
  have hmx := ad2.2.2.2.2.2.2.2.2.2.2.2.2.2.1
  have hen : EN h e (s, n) := by
    obtain ⟨e', e1, e2⟩ := ad2.2.2.2.2.2.2.2.2.2.2.2.2.2.2.2 ix _ hix
    rw [hie] at e1; cases e1; exact e2
  have he1 := hen.1
  have he5 : hvi h e 1 = (n : Int) := hen.2.2.2.2.1
  refine cg 1 (by omega) (fun d hd => ?_)
  have hd0 : (0 < d) = True := eq_true (by omega)
  (repeat' (first | with_reducible assumption | (refine c_atN hdi HT ?_) | (refine c_atN hn HT ?_) | (refine And.intro ?_ ?_) | (with_reducible intro _) | (simp [wp_eq, wpE, mk_X7_part, mg, mc_X7_part, lget, lset, popN, cats, rcv, entL, isArr, kC_s, kC_n, st1, st2, st3, st4, st5, st6, st7, st8, st9, st10, st11, st12, st13, st14, st15, st16, st17, st18, st19, st20, st21, st22, st23, st24, st25, st26, st27, st28, st29, st30, st31, st32, st33, st34, st35, st36, st37, st38, st39, st40, st41, st42, st43, st44, st45, st46, st47, st48, st49, st50, st51, st52, st53, st54, st55, st56, st57, st58, st59, st60, st61, st62, st63, st64, st65, st66, st67, st68, st69, st70, st71, st72, st73, st74, st75, st76, st77, st78, st79, st80, st81, st82, st83, st84, st85, st86, st87, st88, st89, st90, st91, t1, hd0, ad1, an1, ad3, he1, he5]))) <;> (try (first | omega | exact hz))
  refine c_remove ad2 hu hix hie (fun h2 p1 p2 p3 => ?_)
  have HT2 := TR_upd (ex_ch p1) hdi HT ad1 (fun x hx => by rcases hx with z | z; exact Or.inl z; exact Or.inr (Or.inl z)) p2
  have nt1 : ¬ (t + 1 = ad ∨ t + 1 = ad + 2) := fun z => by
    rcases z with z | z
    · rw [z, ad3] at t3; cases t3
    · rw [z, hmx] at t3; cases t3
  have nt0 : ¬ (t = ad ∨ t = ad + 2) := fun z => by
    rcases z with z | z
    · rw [z, ad3] at t1; cases t1
    · rw [z, hmx] at t1; cases t1
  have nan : ¬ (an = ad ∨ an = ad + 2) := fun z => by
    rcases z with z | z
    · exact hne z.symm
    · rw [z, hmx] at an3; cases an3
  have ne0 : ¬ (e = ad ∨ e = ad + 2) := fun z => by
    rcases z with z | z
    · rw [z, ad3] at he1; cases he1
    · rw [z, hmx] at he1; cases he1
  have an2' : ∃ x, hvr h2 (t + 1) n = some x ∧ ND h2 x v := HT2.2.2.2.2.2.2.1 n v hn (by rw [ud_n (fun q => hdn q.symm)]; exact hTn)
  have an1' : hvr h2 (t + 1) n = some an := by rw [(p1.2.2.2 _ nt1 _).1]; exact an1
  have an4 : ND h2 an v := by
    obtain ⟨x, x1, x2⟩ := an2'
    rw [an1'] at x1; cases x1; exact x2
  have an5 : hty h2 an = some (5, 10) := an4.1
  have an6 : hvi h2 an 7 = nT v := an4.2.2.2.2.2.2.2.2.1
  have he2 : hty h2 e = some (0, 2) := by rw [p1.2.1]; exact he1
  have he6 : hvi h2 e 1 = (n : Int) := by rw [(p1.2.2.2 _ ne0 _).2]; exact he5
  have nea : ¬ e = an := fun z => by rw [z, an3] at he1; cases he1
  have nta : ¬ t = an := fun z => by rw [z, an3] at t1; cases t1
  have nta1 : ¬ t + 1 = an := fun z => by rw [z, an3] at t3; cases t3
  have p4 : ch (fun x => x = an) h2 (hsetI h2 an 7 (nT v - 1)) := ch_I rfl
  have an7 : ND (hsetI h2 an 7 (nT v - 1)) an (vT v (nT v - 1)) := by
    refine ND_set an4 p4 ⟨rfl, rfl, rfl, rfl, rfl⟩ (fun j hj => by simp [hty_I, hvi_I, hvr_I, hvl_I, hsz_I, hty_R, hvi_R, hvr_R, hvl_R, hsz_R, hty_L, hvi_L, hvr_L, hvl_L, hsz_L, hty_P, hvi_P, hvr_P, hvl_P, hsz_P, hty_C, hvi_C, hvr_C, hvl_C, hsz_C, show ¬ j = 7 by omega]) (fun j hj => by simp [hty_I, hvi_I, hvr_I, hvl_I, hsz_I, hty_R, hvi_R, hvr_R, hvl_R, hsz_R, hty_L, hvi_L, hvr_L, hvl_L, hsz_L, hty_P, hvi_P, hvr_P, hvl_P, hsz_P, hty_C, hvi_C, hvr_C, hvl_C, hsz_C]) (by simp [hty_I, hvi_I, hvr_I, hvl_I, hsz_I, hty_R, hvi_R, hvr_R, hvl_R, hsz_R, hty_L, hvi_L, hvr_L, hvl_L, hsz_L, hty_P, hvi_P, hvr_P, hvl_P, hsz_P, hty_C, hvi_C, hvr_C, hvl_C, hsz_C]; exact an4.2.2.2.2.2.2.2.1) (by simp [hty_I, hvi_I, hvr_I, hvl_I, hsz_I, hty_R, hvi_R, hvr_R, hvl_R, hsz_R, hty_L, hvi_L, hvr_L, hvl_L, hsz_L, hty_P, hvi_P, hvr_P, hvl_P, hsz_P, hty_C, hvi_C, hvr_C, hvl_C, hsz_C]; rfl) (by simp [hty_I, hvi_I, hvr_I, hvl_I, hsz_I, hty_R, hvi_R, hvr_R, hvl_R, hsz_R, hty_L, hvi_L, hvr_L, hvl_L, hsz_L, hty_P, hvi_P, hvr_P, hvl_P, hsz_P, hty_C, hvi_C, hvr_C, hvl_C, hsz_C]; exact an4.2.2.2.2.2.2.2.2.2.1)
  have HT3 := TR_upd (ex_ch p4) hn HT2 an1' (fun x hx => Or.inl hx) an7
  have hx1 : ch (nS h) h (hsetI h2 an 7 (nT v - 1)) := by
    refine ch_trans (ch_mono (fun x z => ?_) p1) (ch_mono (fun x z => ?_) p4)
    · rcases z with rfl | rfl
      · exact Or.inl ad3
      · exact Or.inr (Or.inl ⟨_, hmx⟩)
    · subst z; exact Or.inl an3
  have hoth : ∀ m a, m < 48 → ¬ m = n → hvr h (t + 1) m = some a → hvr h2 (t + 1) m = some a ∧ hvr h2 a 9 = hvr h a 9 := by
    intro m a hm hmn ha
    have hta : hty h a = some (5, 10) := by
      cases hTm : T m with
      | none => rw [t6 m hm hTm] at ha; cases ha
      | some w =>
        obtain ⟨x, x1, x2⟩ := t7 m w hm hTm
        rw [ha] at x1; cases x1; exact x2.1
    refine ⟨by rw [(p1.2.2.2 _ nt1 _).1]; exact ha, ?_⟩
    by_cases had : a = ad
    · rw [had]; exact p3 9
    · exact (p1.2.2.2 a (fun z => by
        rcases z with z | z
        · exact had z
        · rw [z, hmx] at hta; cases hta) 9).1
  have hon : ∀ a, hvr h (t + 1) n = some a → hvr h2 (t + 1) n = some a ∧ hvr h2 a 9 = hvr h a 9 := fun a ha => by
    rw [an1] at ha; cases ha
    exact ⟨an1', (p1.2.2.2 an nan 9).1⟩
  have g1 : hty h2 t = some (7, 3) := by rw [p1.2.1]; exact t1
  have g2 : hty h2 (t + 1) = some (24, 48) := by rw [p1.2.1]; exact t3
  have g3 : hvr h2 t 0 = some (t + 1) := by rw [(p1.2.2.2 t nt0 _).1]; exact t2
  have g4 : hvi h2 t 1 = (cnt T 48 : Int) := by rw [(p1.2.2.2 t nt0 _).2]; exact t4
  have hcl := cnt_le T 48
  by_cases hz0 : nT v - 1 = 0
  · have HT4 := TR_del (a := an) hn (ud_s (T := ud T di (some (vE vd (delE (nE vd) s)))) (n := n) (o := some (vT v (nT v - 1)))) HT3
    have hcc : cnt (ud (ud T di (some (vE vd (delE (nE vd) s)))) n (some (vT v (nT v - 1)))) 48 = cnt T 48 := by
      rw [cnt_ud_some (v := v) (by rw [ud_n (fun q => hdn q.symm)]; exact hTn), cnt_ud_some hTd]
    rw [hcc, ud_ud] at HT4
    have hpt : ptT T di s n vd v = ud (ud T di (some (vE vd (delE (nE vd) s)))) n none := by simp [ptT, hz0]
    rw [← hpt, hz0] at HT4
    rw [hz0] at hx1
    have hz := hC _ (ch_trans hx1 (ch_trans (ch_R (a := t + 1) (i := n) (v := none) (Or.inr (Or.inr (Or.inr t3)))) (ch_I (a := t) (i := 1) (v := (cnt T 48 : Int) - 1) (Or.inr (Or.inr (Or.inl t1)))))) HT4 (fun m a hm hmn ha => ⟨by simp [hty_I, hvi_I, hvr_I, hvl_I, hsz_I, hty_R, hvi_R, hvr_R, hvl_R, hsz_R, hty_L, hvi_L, hvr_L, hvl_L, hsz_L, hty_P, hvi_P, hvr_P, hvl_P, hsz_P, hty_C, hvi_C, hvr_C, hvl_C, hsz_C, hmn]; exact (hoth m a hm hmn ha).1, by
      have := (hoth m a hm hmn ha).2
      have hat : ¬ a = t + 1 := fun z => by
        cases hTm : T m with
        | none => rw [t6 m hm hTm] at ha; cases ha
        | some w =>
          obtain ⟨x, x1, x2⟩ := t7 m w hm hTm
          rw [ha] at x1; cases x1
          have := x2.1; rw [z, t3] at this; cases this
      simp [hty_I, hvi_I, hvr_I, hvl_I, hsz_I, hty_R, hvi_R, hvr_R, hvl_R, hsz_R, hty_L, hvi_L, hvr_L, hvl_L, hsz_L, hty_P, hvi_P, hvr_P, hvl_P, hsz_P, hty_C, hvi_C, hvr_C, hvl_C, hsz_C, hat]; exact this⟩) (fun a q => absurd hz0 q)
    (repeat' (first | with_reducible assumption | (refine And.intro ?_ ?_) | (with_reducible intro _) | (simp [wp_eq, wpE, mk_X7_part, mg, mc_X7_part, lget, lset, popN, cats, rcv, entL, isArr, kC_s, kC_n, st1, st2, st3, st4, st5, st6, st7, st8, st9, st10, st11, st12, st13, st14, st15, st16, st17, st18, st19, st20, st21, st22, st23, st24, st25, st26, st27, st28, st29, st30, st31, st32, st33, st34, st35, st36, st37, st38, st39, st40, st41, st42, st43, st44, st45, st46, st47, st48, st49, st50, st51, st52, st53, st54, st55, st56, st57, st58, st59, st60, st61, st62, st63, st64, st65, st66, st67, st68, st69, st70, st71, st72, st73, st74, st75, st76, st77, st78, st79, st80, st81, st82, st83, st84, st85, st86, st87, st88, st89, st90, st91, an5, an6, he2, he6, nea, nta, nta1, g1, g2, g3, g4, hz0, hty_I, hvi_I, hvr_I, hvl_I, hsz_I, hty_R, hvi_R, hvr_R, hvl_R, hsz_R, hty_L, hvi_L, hvr_L, hvl_L, hsz_L, hty_P, hvi_P, hvr_P, hvl_P, hsz_P, hty_C, hvi_C, hvr_C, hvl_C, hsz_C, inR]))) <;> (try (first | omega | exact hz))
  · have hpt : ptT T di s n vd v = ud (ud T di (some (vE vd (delE (nE vd) s)))) n (some (vT v (nT v - 1))) := by simp [ptT, hz0]
    rw [← hpt] at HT3
    have hz := hC _ hx1 HT3 (fun m a hm hmn ha => hoth m a hm hmn ha) (fun a _ ha => hon a ha)
    (repeat' (first | with_reducible assumption | (refine And.intro ?_ ?_) | (with_reducible intro _) | (simp [wp_eq, wpE, mk_X7_part, mg, mc_X7_part, lget, lset, popN, cats, rcv, entL, isArr, kC_s, kC_n, st1, st2, st3, st4, st5, st6, st7, st8, st9, st10, st11, st12, st13, st14, st15, st16, st17, st18, st19, st20, st21, st22, st23, st24, st25, st26, st27, st28, st29, st30, st31, st32, st33, st34, st35, st36, st37, st38, st39, st40, st41, st42, st43, st44, st45, st46, st47, st48, st49, st50, st51, st52, st53, st54, st55, st56, st57, st58, st59, st60, st61, st62, st63, st64, st65, st66, st67, st68, st69, st70, st71, st72, st73, st74, st75, st76, st77, st78, st79, st80, st81, st82, st83, st84, st85, st86, st87, st88, st89, st90, st91, an5, an6, hz0, hty_I, hvi_I, hvr_I, hvl_I, hsz_I, hty_R, hvi_R, hvr_R, hvl_R, hsz_R, hty_L, hvi_L, hvr_L, hvl_L, hsz_L, hty_P, hvi_P, hvr_P, hvl_P, hsz_P, hty_C, hvi_C, hvr_C, hvl_C, hsz_C, inR]))) <;> (try (first | omega | exact hz))
