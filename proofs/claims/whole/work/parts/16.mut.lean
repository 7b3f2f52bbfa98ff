/-! WRITING nodes and entries of the class -/
/-- old cells keep their kinds; those out of S their values -/
def ex (S : Nat → Prop) (h h' : mH) : Prop := hsz h ≤ hsz h' ∧ ∀ a, ¬ hty h a = none → hty h' a = hty h a ∧ (¬ S a → ∀ j, hvr h' a j = hvr h a j ∧ hvi h' a j = hvi h a j)
def fsh (h : mH) : Prop := ∀ a, hsz h ≤ a → hty h a = none
theorem ex_refl {S : Nat → Prop} {h : mH} : ex S h h := ⟨Nat.le_refl _, fun _ _ => ⟨rfl, fun _ _ => ⟨rfl, rfl⟩⟩⟩
theorem ex_trans {S : Nat → Prop} {h1 h2 h3 : mH} (p : ex S h1 h2) (q : ex S h2 h3) : ex S h1 h3 :=
  ⟨Nat.le_trans p.1 q.1, fun a ha => by
    have p1 := p.2 a ha
    have q1 := q.2 a (by rw [p1.1]; exact ha)
    exact ⟨q1.1.trans p1.1, fun n j => ⟨(q1.2 n j).1.trans (p1.2 n j).1, (q1.2 n j).2.trans (p1.2 n j).2⟩⟩⟩
theorem ex_mono {S T : Nat → Prop} {h h' : mH} (hS : ∀ a, ¬ hty h a = none → S a → T a) (p : ex S h h') : ex T h h' := ⟨p.1, fun a ha => ⟨(p.2 a ha).1, fun n => (p.2 a ha).2 (fun q => n (hS a ha q))⟩⟩
theorem ex_ch {S : Nat → Prop} {h h' : mH} (q : ch S h h') : ex S h h' := ⟨by rw [q.1]; exact Nat.le_refl _, fun a _ => ⟨q.2.1 a, fun n => q.2.2.2 a n⟩⟩
theorem ex_push {S : Nat → Prop} {h : mH} {t n : Nat} (hf : fsh h) : ex S h (hpush h t n) :=
  ⟨by simp [hsz_P], fun a ha => by
    have : ¬ a = hsz h := fun q => ha (hf a (by omega))
    simp [hty_P, hvr_P, hvi_P, this]⟩
theorem fsh_push {h : mH} {t n : Nat} (hf : fsh h) : fsh (hpush h t n) := fun a ha => by
  simp [hsz_P] at ha
  rw [hty_P, if_neg (by omega)]; exact hf a (by omega)
theorem fsh_ch {S : Nat → Prop} {h h' : mH} (q : ch S h h') (hf : fsh h) : fsh h' := fun a ha => by rw [q.2.1]; exact hf a (by rw [← q.1]; exact ha)
theorem fsh_lt {h : mH} {a t n : Nat} (hf : fsh h) (ht : hty h a = some (t, n)) : a < hsz h := Nat.lt_of_not_le fun q => by rw [hf a q] at ht; cases ht
theorem EN_ex {S : Nat → Prop} {h h' : mH} {e : Nat} {p : aE} (q : ex S h h') (hS : ∀ a, S a → ¬ hty h a = some (0, 2) ∧ ∀ n, n ≤ 14 → ¬ hty h a = some (21, n)) (H : EN h e p) : EN h' e p := by
  obtain ⟨h1, h2, h3, h4, h5, b, h6, h7, h8⟩ := H
  have ne : ¬ S e := fun s => (hS e s).1 h1
  have nb : ¬ S b := fun s => (hS b s).2 _ h3 h7
  have qe := q.2 e (by rw [h1]; simp)
  have qb := q.2 b (by rw [h7]; simp)
  exact ⟨by rw [qe.1]; exact h1, h2, h3, h4, by rw [(qe.2 ne 1).2]; exact h5, b, by rw [(qe.2 ne 0).1]; exact h6, by rw [qb.1]; exact h7, fun i hi => by rw [(qb.2 nb _).2]; exact h8 i hi⟩
theorem ND_ex {S : Nat → Prop} {h h' : mH} {a : Nat} {v : aN} (q : ex S h h') (hS : ∀ a, S a → ¬ hty h a = some (0, 2) ∧ ∀ n, n ≤ 14 → ¬ hty h a = some (21, n)) (na : ¬ S a) (nt : ¬ S (a + 1)) (ne : ¬ S (a + 2)) (H : ND h a v) : ND h' a v := by
  obtain ⟨v1, v2, v3, v4, v5, v6, v7, v8, v9, v10, v11, v12, v13, v14, v15, v16⟩ := H
  have qa := q.2 a (by rw [v1]; simp)
  have qt := q.2 (a + 1) (by rw [v11]; simp)
  have qe := q.2 (a + 2) (by rw [v14]; simp)
  refine ⟨by rw [qa.1]; exact v1, ?_, ?_, ?_, ?_, ?_, ?_, ?_, ?_, ?_, by rw [qt.1]; exact v11, fun i hi => by rw [(qt.2 nt _).2]; exact v12 i hi, v13, by rw [qe.1]; exact v14, v15, fun k p hk => ?_⟩
  · rw [(qa.2 na _).2]; exact v2
  · rw [(qa.2 na _).2]; exact v3
  · rw [(qa.2 na _).2]; exact v4
  · rw [(qa.2 na _).1]; exact v5
  · rw [(qa.2 na _).1]; exact v6
  · rw [(qa.2 na _).2]; exact v7
  · rw [(qa.2 na _).2]; exact v8
  · rw [(qa.2 na _).2]; exact v9
  · rw [(qa.2 na _).2]; exact v10
  · obtain ⟨e, e1, e2⟩ := v16 k p hk
    exact ⟨e, by rw [(qe.2 ne _).1]; exact e1, EN_ex q hS e2⟩
theorem TR_ex {S : Nat → Prop} {h h' : mH} {t : Nat} {T : aT} {here : Nat} (q : ex S h h') (hS : ∀ a, S a → frn (hty h a)) (H : TR t h T here) : TR t h' T here := by
  obtain ⟨t1, t2, t3, t4, t5, t6, t7, t8⟩ := H
  have nt : ¬ S t := fun s => (hS t s).2.2.1 t1
  have nn : ¬ S (t + 1) := fun s => (hS _ s).2.2.2.1 t3
  have qt := q.2 t (by rw [t1]; simp)
  have qn := q.2 (t + 1) (by rw [t3]; simp)
  refine ⟨by rw [qt.1]; exact t1, by rw [(qt.2 nt _).1]; exact t2, by rw [qn.1]; exact t3, by rw [(qt.2 nt _).2]; exact t4, by rw [(qt.2 nt _).2]; exact t5, ?_, ?_, ?_⟩
  · intro n hn hT; rw [(qn.2 nn _).1]; exact t6 n hn hT
  · intro n v hn hT
    obtain ⟨a, a1, a2⟩ := t7 n v hn hT
    have a22 := a2
    obtain ⟨v1, v2, v3, v4, v5, v6, v7, v8, v9, v10, v11, v12, v13, v14, v15, v16⟩ := a22
    exact ⟨a, by rw [(qn.2 nn _).1]; exact a1, ND_ex q (fun x sx => ⟨(hS x sx).2.1, fun n hn => (hS x sx).2.2.2.2.2 n (by omega)⟩) (fun s => (hS a s).1 v1) (fun s => (hS _ s).2.2.2.2.2 _ v13.2 v11) (fun s => (hS _ s).2.2.2.2.1 _ v14) a2⟩
  · intro n m a hn hm p1 p2
    rw [(qn.2 nn _).1] at p1 p2
    exact t8 n m a hn hm p1 p2
theorem Ninit_fin {a n m : Nat} {h : mH} {K Z D B : Int} (hn : n ≤ 40) (ht : hty h a = some (5, 10)) (hs : hsz h = a + 1) (hf : fsh h) (h5 : hvi h a 5 = 0) (h7 : hvi h a 7 = 0) (h8 : hvi h a 8 = 0) (hm : m = if K = 0 then 12 else 0) (hB : B = if K = 0 then 7 else 0) :
    ∀ h', h' = hsetI (hsetR (hpush (hsetR (hpush (hsetI (hsetI (hsetI h a 0 K) a 1 Z) a 2 D) 21 n) a 3 (some (a + 1))) 25 m) a 4 (some (a + 1 + 1))) a 6 B →
    ex (fun x => x = a) h h' ∧ hsz h' = a + 3 ∧ fsh h' ∧ ND h' a ((K, Z, D), ((if K = 0 then 7 else 0), 0, 0), List.replicate n 0, []) ∧ hvr h' a 9 = hvr h a 9 := by
  intro h' he
  have q1 : ch (fun x => x = a) h (hsetI (hsetI (hsetI h a 0 K) a 1 Z) a 2 D) := ch_trans (ch_trans (ch_I rfl) (ch_I rfl)) (ch_I rfl)
  have f1 := fsh_ch q1 hf
  have f2 := fsh_push (t := 21) (n := n) f1
  have f3 : fsh (hsetR (hpush (hsetI (hsetI (hsetI h a 0 K) a 1 Z) a 2 D) 21 n) a 3 (some (a + 1))) := f2
  have f4 := fsh_push (t := 25) (n := m) f3
  subst he
  have ha2 : ¬ a = a + 1 + 1 := by omega
  have ha3 : ¬ a + 1 = a + 1 + 1 := by omega
  refine ⟨ex_trans (ex_ch q1) (ex_trans (ex_push f1) (ex_trans (ex_ch (ch_R rfl)) (ex_trans (ex_push f3) (ex_trans (ex_ch (ch_R rfl)) (ex_ch (ch_I rfl)))))), by simp [hty_I, hvi_I, hvr_I, hvl_I, hsz_I, hty_R, hvi_R, hvr_R, hvl_R, hsz_R, hty_L, hvi_L, hvr_L, hvl_L, hsz_L, hty_P, hvi_P, hvr_P, hvl_P, hsz_P, hty_C, hvi_C, hvr_C, hvl_C, hsz_C, ha2, ha3, hs], f4, ?_, by simp [hty_I, hvi_I, hvr_I, hvl_I, hsz_I, hty_R, hvi_R, hvr_R, hvl_R, hsz_R, hty_L, hvi_L, hvr_L, hvl_L, hsz_L, hty_P, hvi_P, hvr_P, hvl_P, hsz_P, hty_C, hvi_C, hvr_C, hvl_C, hsz_C, ha2, ha3, hs]⟩
  refine ⟨by simp [hty_I, hvi_I, hvr_I, hvl_I, hsz_I, hty_R, hvi_R, hvr_R, hvl_R, hsz_R, hty_L, hvi_L, hvr_L, hvl_L, hsz_L, hty_P, hvi_P, hvr_P, hvl_P, hsz_P, hty_C, hvi_C, hvr_C, hvl_C, hsz_C, ha2, ha3, hs, ht], by simp [hty_I, hvi_I, hvr_I, hvl_I, hsz_I, hty_R, hvi_R, hvr_R, hvl_R, hsz_R, hty_L, hvi_L, hvr_L, hvl_L, hsz_L, hty_P, hvi_P, hvr_P, hvl_P, hsz_P, hty_C, hvi_C, hvr_C, hvl_C, hsz_C, ha2, ha3, hs, nK], by simp [hty_I, hvi_I, hvr_I, hvl_I, hsz_I, hty_R, hvi_R, hvr_R, hvl_R, hsz_R, hty_L, hvi_L, hvr_L, hvl_L, hsz_L, hty_P, hvi_P, hvr_P, hvl_P, hsz_P, hty_C, hvi_C, hvr_C, hvl_C, hsz_C, ha2, ha3, hs, nZ], by simp [hty_I, hvi_I, hvr_I, hvl_I, hsz_I, hty_R, hvi_R, hvr_R, hvl_R, hsz_R, hty_L, hvi_L, hvr_L, hvl_L, hsz_L, hty_P, hvi_P, hvr_P, hvl_P, hsz_P, hty_C, hvi_C, hvr_C, hvl_C, hsz_C, ha2, ha3, hs, nD], by simp [hty_I, hvi_I, hvr_I, hvl_I, hsz_I, hty_R, hvi_R, hvr_R, hvl_R, hsz_R, hty_L, hvi_L, hvr_L, hvl_L, hsz_L, hty_P, hvi_P, hvr_P, hvl_P, hsz_P, hty_C, hvi_C, hvr_C, hvl_C, hsz_C, ha2, ha3, hs], by simp [hty_I, hvi_I, hvr_I, hvl_I, hsz_I, hty_R, hvi_R, hvr_R, hvl_R, hsz_R, hty_L, hvi_L, hvr_L, hvl_L, hsz_L, hty_P, hvi_P, hvr_P, hvl_P, hsz_P, hty_C, hvi_C, hvr_C, hvl_C, hsz_C, ha2, ha3, hs], by simp [hty_I, hvi_I, hvr_I, hvl_I, hsz_I, hty_R, hvi_R, hvr_R, hvl_R, hsz_R, hty_L, hvi_L, hvr_L, hvl_L, hsz_L, hty_P, hvi_P, hvr_P, hvl_P, hsz_P, hty_C, hvi_C, hvr_C, hvl_C, hsz_C, ha2, ha3, hs, nE, h5], by simp [hty_I, hvi_I, hvr_I, hvl_I, hsz_I, hty_R, hvi_R, hvr_R, hvl_R, hsz_R, hty_L, hvi_L, hvr_L, hvl_L, hsz_L, hty_P, hvi_P, hvr_P, hvl_P, hsz_P, hty_C, hvi_C, hvr_C, hvl_C, hsz_C, ha2, ha3, hs, nB, hB], by simp [hty_I, hvi_I, hvr_I, hvl_I, hsz_I, hty_R, hvi_R, hvr_R, hvl_R, hsz_R, hty_L, hvi_L, hvr_L, hvl_L, hsz_L, hty_P, hvi_P, hvr_P, hvl_P, hsz_P, hty_C, hvi_C, hvr_C, hvl_C, hsz_C, ha2, ha3, hs, nT, h7], by simp [hty_I, hvi_I, hvr_I, hvl_I, hsz_I, hty_R, hvi_R, hvr_R, hvl_R, hsz_R, hty_L, hvi_L, hvr_L, hvl_L, hsz_L, hty_P, hvi_P, hvr_P, hvl_P, hsz_P, hty_C, hvi_C, hvr_C, hvl_C, hsz_C, ha2, ha3, hs, nA, h8], by simp [hty_I, hvi_I, hvr_I, hvl_I, hsz_I, hty_R, hvi_R, hvr_R, hvl_R, hsz_R, hty_L, hvi_L, hvr_L, hvl_L, hsz_L, hty_P, hvi_P, hvr_P, hvl_P, hsz_P, hty_C, hvi_C, hvr_C, hvl_C, hsz_C, ha2, ha3, hs, nX], fun i hi => ?_, ⟨fun c hc => ?_, by simpa [nX] using hn⟩, by simp [hty_I, hvi_I, hvr_I, hvl_I, hsz_I, hty_R, hvi_R, hvr_R, hvl_R, hsz_R, hty_L, hvi_L, hvr_L, hvl_L, hsz_L, hty_P, hvi_P, hvr_P, hvl_P, hsz_P, hty_C, hvi_C, hvr_C, hvl_C, hsz_C, ha2, ha3, hs, nMx, nK, hm]; rfl, by simp [nE], fun k p hk => by simp [nE] at hk⟩
  · simp [nX] at hi
    simp [hty_I, hvi_I, hvr_I, hvl_I, hsz_I, hty_R, hvi_R, hvr_R, hvl_R, hsz_R, hty_L, hvi_L, hvr_L, hvl_L, hsz_L, hty_P, hvi_P, hvr_P, hvl_P, hsz_P, hty_C, hvi_C, hvr_C, hvl_C, hsz_C, ha2, ha3, hs, nX, lf, hi]
  · simp [nX] at hc
    omega
theorem c_Ninit {G : Nat → Nat} {d a n : Nat} {h : mH} {C : mQ} {X : mX} {K Z D : Int} (hn : n ≤ 40) (ht : hty h a = some (5, 10)) (hs : hsz h = a + 1) (hf : fsh h) (h5 : hvi h a 5 = 0) (h7 : hvi h a 7 = 0) (h8 : hvi h a 8 = 0)
    (hC : ∀ h', ex (fun x => x = a) h h' → hsz h' = a + 3 → fsh h' → ND h' a ((K, Z, D), ((if K = 0 then 7 else 0), 0, 0), List.replicate n 0, []) → hvr h' a 9 = hvr h a 9 → C none h') :
    callG (wp G) d 38 2 112 5 [.inr (.inl (some a)), .inl K, .inl Z, .inl D, .inl (n : Int)] h C X := by
  have e1 : (if 0 < n then (n : Int) else 0) = (n : Int) := by split <;> omega
  refine ⟨C, fun _ _ => False, ?_, fun _ _ q => q, fun _ _ q => q.elim⟩
  by_cases hK : K = 0
  · have hg := Ninit_fin (n := n) (Z := Z) (D := D) (B := 7) (m := 12) hn ht hs hf h5 h7 h8 (by rw [if_pos hK]) (by rw [if_pos hK]) _ rfl
    have hz := hC _ hg.1 hg.2.1 hg.2.2.1 hg.2.2.2.1 hg.2.2.2.2
    subst hK
    (repeat' (first | with_reducible assumption | (refine And.intro ?_ ?_) | (with_reducible intro _) | (simp [wp_eq, wpE, mk_X5_init, mg, mc_X5_init, lget, lset, popN, cats, rcv, entL, isArr, kC_s, kC_n, st1, st2, st3, st4, st5, st6, st7, st8, st9, st10, st11, st12, st13, st14, st15, st16, st17, st18, st19, st20, st21, st22, st23, st24, st25, st26, st27, st28, st29, st30, st31, st32, st33, st34, st35, st36, st37, st38, st39, st40, st41, st42, st43, st44, st45, st46, st47, st48, st49, st50, st51, st52, st53, st54, st55, st56, st57, st58, st59, st60, st61, st62, st63, st64, st65, st66, st67, st68, st69, st70, st71, st72, st73, st74, st75, st76, st77, st78, st79, st80, st81, st82, st83, st84, st85, st86, st87, st88, st89, st90, st91, ht, hs, inR, hty_I, hvi_I, hvr_I, hvl_I, hsz_I, hty_R, hvi_R, hvr_R, hvl_R, hsz_R, hty_L, hvi_L, hvr_L, hvl_L, hsz_L, hty_P, hvi_P, hvr_P, hvl_P, hsz_P, hty_C, hvi_C, hvr_C, hvl_C, hsz_C, e1]))) <;> (try omega)
  · have hg := Ninit_fin (n := n) (Z := Z) (D := D) (B := 0) (m := 0) hn ht hs hf h5 h7 h8 (by rw [if_neg hK]) (by rw [if_neg hK]) _ rfl
    have hz := hC _ hg.1 hg.2.1 hg.2.2.1 hg.2.2.2.1 hg.2.2.2.2
    (repeat' (first | with_reducible assumption | (refine And.intro ?_ ?_) | (with_reducible intro _) | (simp [wp_eq, wpE, mk_X5_init, mg, mc_X5_init, lget, lset, popN, cats, rcv, entL, isArr, kC_s, kC_n, st1, st2, st3, st4, st5, st6, st7, st8, st9, st10, st11, st12, st13, st14, st15, st16, st17, st18, st19, st20, st21, st22, st23, st24, st25, st26, st27, st28, st29, st30, st31, st32, st33, st34, st35, st36, st37, st38, st39, st40, st41, st42, st43, st44, st45, st46, st47, st48, st49, st50, st51, st52, st53, st54, st55, st56, st57, st58, st59, st60, st61, st62, st63, st64, st65, st66, st67, st68, st69, st70, st71, st72, st73, st74, st75, st76, st77, st78, st79, st80, st81, st82, st83, st84, st85, st86, st87, st88, st89, st90, st91, ht, hs, hK, inR, hty_I, hvi_I, hvr_I, hvl_I, hsz_I, hty_R, hvi_R, hvr_R, hvl_R, hsz_R, hty_L, hvi_L, hvr_L, hvl_L, hsz_L, hty_P, hvi_P, hvr_P, hvl_P, hsz_P, hty_C, hvi_C, hvr_C, hvl_C, hsz_C, e1]))) <;> (try omega)
def ud (T : aT) (n : Nat) (o : Option aN) : aT := fun m => if m = n then o else T m
theorem ud_s {T : aT} {n : Nat} {o : Option aN} : ud T n o n = o := by simp [ud]
theorem ud_n {T : aT} {n m : Nat} {o : Option aN} (h : ¬ m = n) : ud T n o m = T m := by simp [ud, h]
theorem cnt_upd_ge {T : aT} {n : Nat} {o : Option aN} : ∀ N, N ≤ n → cnt (ud T n o) N = cnt T N := by
  intro N
  induction N with
  | zero => intro _; rfl
  | succ N ih => intro h; simp only [cnt]; rw [ih (by omega), ud_n (by omega)]
theorem cnt_ud_some {T : aT} {n : Nat} {v v' : aN} (h : T n = some v) : ∀ N, cnt (ud T n (some v')) N = cnt T N := by
  intro N
  induction N with
  | zero => rfl
  | succ N ih =>
    simp only [cnt]; rw [ih]
    by_cases hN : N = n
    · subst hN; rw [ud_s, h]; simp
    · rw [ud_n hN]
theorem cnt_upd_new {T : aT} {n : Nat} {v : aN} (h : T n = none) : ∀ N, n < N → cnt (ud T n (some v)) N = cnt T N + 1 := by
  intro N
  induction N with
  | zero => intro q; omega
  | succ N ih =>
    intro q
    simp only [cnt]
    by_cases hN : N = n
    · subst hN; rw [cnt_upd_ge _ (Nat.le_refl _), ud_s, h]; simp
    · rw [ih (by omega), ud_n hN]; omega
theorem cnt_upd_del {T : aT} {n : Nat} {v : aN} (h : T n = some v) : ∀ N, n < N → cnt (ud T n none) N + 1 = cnt T N := by
  intro N
  induction N with
  | zero => intro q; omega
  | succ N ih =>
    intro q
    simp only [cnt]
    by_cases hN : N = n
    · subst hN; rw [cnt_upd_ge _ (Nat.le_refl _), ud_s, h]; simp
    · have := ih (by omega); rw [ud_n hN]; omega
theorem cnt_le (T : aT) : ∀ N, cnt T N ≤ N := by
  intro N
  induction N with
  | zero => simp [cnt]
  | succ N ih => simp only [cnt]; split <;> omega
theorem cnt_free {T : aT} : ∀ N, cnt T N < N → ∃ n, n < N ∧ T n = none := by
  intro N
  induction N with
  | zero => intro h; omega
  | succ N ih =>
    intro h
    simp only [cnt] at h
    cases hT : T N with
    | none => exact ⟨N, by omega, hT⟩
    | some v =>
      rw [hT] at h
      obtain ⟨n, h1, h2⟩ := ih (by simp at h; omega)
      exact ⟨n, by omega, h2⟩
/-- the least free number -/
def frF (T : aT) : Nat → Nat
  | 0 => 48
  | k + 1 => if T (48 - (k + 1)) = none then 48 - (k + 1) else frF T k
theorem frF_eq {T : aT} {n : Nat} (h : T n = none) (hn : n < 48) (hm : ∀ m, m < n → ¬ T m = none) : frF T 48 = n := by
  have key : ∀ k, 48 - n ≤ k → k ≤ 48 → frF T k = n := by
    intro k
    induction k with
    | zero => intro h1 _; omega
    | succ k ih =>
      intro h1 h2
      simp only [frF]
      by_cases he : 48 - (k + 1) = n
      · rw [he, if_pos h]
      · rw [if_neg (hm _ (by omega))]; exact ih (by omega) (by omega)
  exact key 48 (by omega) (by omega)
def vE (v : aN) (E : List aE) : aN := (v.1, v.2.1, v.2.2.1, E)
def vT (v : aN) (z : Int) : aN := (v.1, (v.2.1.1, z, v.2.1.2.2), v.2.2)
def vA (v : aN) (n : Nat) : aN := (v.1, (v.2.1.1, v.2.1.2.1, n), v.2.2)
def vB (v : aN) (b : Int) : aN := (v.1, (b, v.2.1.2), v.2.2)
/-- one node is written -/
theorem TR_upd {S : Nat → Prop} {h h' : mH} {t n a : Nat} {T : aT} {here : Nat} {v' : aN} (q : ex S h h') (hn : n < 48) (H : TR t h T here) (ha : hvr h (t + 1) n = some a) (hS : ∀ x, S x → x = a ∨ x = a + 2 ∨ frn (hty h x)) (hN : ND h' a v') : TR t h' (ud T n (some v')) here := by
  obtain ⟨t1, t2, t3, t4, t5, t6, t7, t8⟩ := H
  cases hT : T n with
  | none => rw [t6 n hn hT] at ha; cases ha
  | some v =>
    obtain ⟨a', b1, b2⟩ := t7 n v hn hT
    rw [ha] at b1; cases b1
    have b22 := b2
    obtain ⟨v1, v2, v3, v4, v5, v6, v7, v8, v9, v10, v11, v12, v13, v14, v15, v16⟩ := b22
    have hSa : ∀ x, S x → hty h x = some (5, 10) ∨ (∃ n, hty h x = some (25, n)) ∨ frn (hty h x) := fun x sx => by
      rcases hS x sx with rfl | rfl | hf
      · exact Or.inl v1
      · exact Or.inr (Or.inl ⟨_, v14⟩)
      · exact Or.inr (Or.inr hf)
    have nt : ¬ S t := fun s => by rcases hSa t s with z | ⟨m, z⟩ | z <;> simp [t1, frn] at z
    have nn : ¬ S (t + 1) := fun s => by rcases hSa _ s with z | ⟨m, z⟩ | z <;> simp [t3, frn] at z
    have qt := q.2 t (by rw [t1]; simp)
    have qn := q.2 (t + 1) (by rw [t3]; simp)
    refine ⟨by rw [qt.1]; exact t1, by rw [(qt.2 nt _).1]; exact t2, by rw [qn.1]; exact t3, by rw [(qt.2 nt _).2, cnt_ud_some hT]; exact t4, by rw [(qt.2 nt _).2]; exact t5, ?_, ?_, ?_⟩
    · intro m hm hTm
      rw [(qn.2 nn _).1]
      by_cases he : m = n
      · subst he; rw [ud_s] at hTm; cases hTm
      · rw [ud_n he] at hTm; exact t6 m hm hTm
    · intro m w hm hTm
      rw [(qn.2 nn _).1]
      by_cases he : m = n
      · subst he; rw [ud_s] at hTm; cases hTm; exact ⟨a, ha, hN⟩
      · rw [ud_n he] at hTm
        obtain ⟨c, c1, c2⟩ := t7 m w hm hTm
        have hca : ¬ c = a := fun z => he (t8 m n a hm hn (by rw [← z]; exact c1) ha)
        have c22 := c2
        obtain ⟨w1, w2, w3, w4, w5, w6, w7, w8, w9, w10, w11, w12, w13, w14, w15, w16⟩ := c22
        refine ⟨c, c1, ND_ex q (fun x sx => ?_) (fun s => ?_) (fun s => ?_) (fun s => ?_) c2⟩
        · rcases hSa x sx with z | ⟨m, z⟩ | z
          · rw [z]; simp
          · rw [z]; simp
          · exact ⟨z.2.1, fun n hn => z.2.2.2.2.2 n (by omega)⟩
        · rcases hS c s with z | z | z
          · exact hca z
          · rw [z, v14] at w1; cases w1
          · exact z.1 w1
        · rcases hS _ s with z | z | z
          · rw [z, v1] at w11; cases w11
          · rw [z, v14] at w11; cases w11
          · exact z.2.2.2.2.2 _ w13.2 w11
        · rcases hS _ s with z | z | z
          · rw [z, v1] at w14; cases w14
          · exact hca (by omega)
          · exact z.2.2.2.2.1 _ w14
    · intro m k b hm hk p1 p2
      rw [(qn.2 nn _).1] at p1 p2
      exact t8 m k b hm hk p1 p2
theorem insE_get (E : List aE) (p : aE) (k : Nat) : (insE E p)[k]? = if k < insK E p.1 E.length then E[k]? else if k = insK E p.1 E.length then some p else E[k - 1]? := by
  have hk := insK_le E p.1 E.length
  unfold insE
  generalize insK E p.1 E.length = K at *
  by_cases h1 : k < K
  · rw [if_pos h1, List.getElem?_append_left (by simp; omega), List.getElem?_take, if_pos h1]
  · rw [if_neg h1, List.getElem?_append_right (by simp; omega)]
    simp only [List.length_take, Nat.min_eq_left hk]
    by_cases h2 : k = K
    · rw [if_pos h2, h2]; simp
    · rw [if_neg h2]
      obtain ⟨j, hj⟩ : ∃ j, k - K = j + 1 := ⟨k - K - 1, by omega⟩
      rw [hj, List.getElem?_cons_succ, List.getElem?_drop]; congr 1; omega
theorem ND_row {S : Nat → Prop} {h h' : mH} {a : Nat} {v : aN} {E : List aE} (H : ND h a v) (q : ex S h h') (hS : ∀ x, S x → x = a ∨ x = a + 2) (h1 : ∀ j, ¬ j = 5 → hvi h' a j = hvi h a j) (h2 : ∀ j, j < 9 → hvr h' a j = hvr h a j) (h3 : hvi h' a 5 = (E.length : Int)) (h4 : E.length ≤ nMx v) (h5 : ∀ k p, E[k]? = some p → ∃ e, hvr h' (a + 2) k = some e ∧ EN h' e p) : ND h' a (vE v E) := by
  obtain ⟨v1, v2, v3, v4, v5, v6, v7, v8, v9, v10, v11, v12, v13, v14, v15, v16⟩ := H
  have nt : ¬ S (a + 1) := fun s => by rcases hS _ s with z | z <;> omega
  have qa := q.2 a (by rw [v1]; simp)
  have qt := q.2 (a + 1) (by rw [v11]; simp)
  have qe := q.2 (a + 2) (by rw [v14]; simp)
  exact ⟨by rw [qa.1]; exact v1, by rw [h1 _ (by decide)]; exact v2, by rw [h1 _ (by decide)]; exact v3, by rw [h1 _ (by decide)]; exact v4, by rw [h2 _ (by decide)]; exact v5, by rw [h2 _ (by decide)]; exact v6, h3, by rw [h1 _ (by decide)]; exact v8, by rw [h1 _ (by decide)]; exact v9, by rw [h1 _ (by decide)]; exact v10, by rw [qt.1]; exact v11, fun i hi => by rw [(qt.2 nt _).2]; exact v12 i hi, v13, by rw [qe.1]; exact v14, h4, h5⟩
theorem c_orderTo0 {G : Nat → Nat} {d a e : Nat} {h : mH} {C : mQ} {X : mX} {p : aE} {w : List Int} (he : EN h e p) (bw : bd w) (ht : hty h a = some (21, w.length)) (hl : w.length ≤ 14) (hr : ro h a 0 w) (hC : C (some (.inl (cmpv p.1 w))) h) :
    callG (wp G) d 2 0 0 5 [.inr (.inl (some e)), .inr (.inl (some a)), .inl 0, .inl (w.length : Int)] h C X := by
  have := c_orderTo (G := G) (d := d) (X := X) (s := 0) he bw ht (by omega) (by omega) hr hC
  simpa using this
theorem EN_b {h : mH} {e : Nat} {p : aE} (H : EN h e p) : ∃ b, hvr h e 0 = some b ∧ hty h b = some (21, p.1.length) ∧ ro h b 0 p.1 := H.2.2.2.2.2
theorem ins_fin {h h1 : mH} {a e m : Nat} {v : aN} {p : aE} (hv : ND h a v) (he : EN h e p) (hn : (nE v).length < nMx v) (hm : insK (nE v) p.1 (nE v).length = m) (q : ch (fun x => x = a + 2) h h1) (r1 : ∀ k, k < m → hvr h1 (a + 2) k = hvr h (a + 2) k) (r2 : ∀ k, m < k → k ≤ (nE v).length → hvr h1 (a + 2) k = hvr h (a + 2) (k - 1)) :
    ch (fun x => x = a ∨ x = a + 2) h (hsetI (hsetR h1 (a + 2) m (some e)) a 5 (((nE v).length : Int) + 1)) ∧ ND (hsetI (hsetR h1 (a + 2) m (some e)) a 5 (((nE v).length : Int) + 1)) a (vE v (insE (nE v) p)) ∧ ∀ j, hvr (hsetI (hsetR h1 (a + 2) m (some e)) a 5 (((nE v).length : Int) + 1)) a j = hvr h a j := by
  have hq : ch (fun x => x = a ∨ x = a + 2) h (hsetI (hsetR h1 (a + 2) m (some e)) a 5 (((nE v).length : Int) + 1)) := ch_trans (ch_trans (ch_mono (fun x z => Or.inr z) q) (ch_R (Or.inr rfl))) (ch_I (Or.inl rfl))
  have hvv := hv
  obtain ⟨v1, v2, v3, v4, v5, v6, v7, v8, v9, v10, v11, v12, v13, v14, v15, v16⟩ := hvv
  have hra : ∀ j, hvr h1 a j = hvr h a j := fun j => (q.2.2.2 a (by omega) j).1
  have hia : ∀ j, hvi h1 a j = hvi h a j := fun j => (q.2.2.2 a (by omega) j).2
  have hSS : ∀ x, (x = a ∨ x = a + 2) → ¬ hty h x = some (0, 2) ∧ ∀ n, n ≤ 14 → ¬ hty h x = some (21, n) := fun x hx => by
    rcases hx with rfl | rfl
    · rw [v1]; simp
    · rw [v14]; simp
  refine ⟨hq, ND_row hv (ex_ch hq) (fun x z => z) (fun j hj => by simp [hty_I, hvi_I, hvr_I, hvl_I, hsz_I, hty_R, hvi_R, hvr_R, hvl_R, hsz_R, hty_L, hvi_L, hvr_L, hvl_L, hsz_L, hty_P, hvi_P, hvr_P, hvl_P, hsz_P, hty_C, hvi_C, hvr_C, hvl_C, hsz_C, hj, hia]) (fun j _ => by simp [hty_I, hvi_I, hvr_I, hvl_I, hsz_I, hty_R, hvi_R, hvr_R, hvl_R, hsz_R, hty_L, hvi_L, hvr_L, hvl_L, hsz_L, hty_P, hvi_P, hvr_P, hvl_P, hsz_P, hty_C, hvi_C, hvr_C, hvl_C, hsz_C, hra]) (by simp [hty_I, hvi_I, hvr_I, hvl_I, hsz_I, hty_R, hvi_R, hvr_R, hvl_R, hsz_R, hty_L, hvi_L, hvr_L, hvl_L, hsz_L, hty_P, hvi_P, hvr_P, hvl_P, hsz_P, hty_C, hvi_C, hvr_C, hvl_C, hsz_C, insE_len]) (by rw [insE_len]; omega) (fun k x hk => ?_), fun j => by simp [hty_I, hvi_I, hvr_I, hvl_I, hsz_I, hty_R, hvi_R, hvr_R, hvl_R, hsz_R, hty_L, hvi_L, hvr_L, hvl_L, hsz_L, hty_P, hvi_P, hvr_P, hvl_P, hsz_P, hty_C, hvi_C, hvr_C, hvl_C, hsz_C, hra]⟩
  rw [insE_get, hm] at hk
  by_cases k1 : k < m
  · rw [if_pos k1] at hk
    obtain ⟨f, f1, f2⟩ := v16 k x hk
    exact ⟨f, by simp [hty_I, hvi_I, hvr_I, hvl_I, hsz_I, hty_R, hvi_R, hvr_R, hvl_R, hsz_R, hty_L, hvi_L, hvr_L, hvl_L, hsz_L, hty_P, hvi_P, hvr_P, hvl_P, hsz_P, hty_C, hvi_C, hvr_C, hvl_C, hsz_C, show ¬ k = m by omega, r1 k k1, f1], EN_ex (ex_ch hq) hSS f2⟩
  · rw [if_neg k1] at hk
    by_cases k2 : k = m
    · rw [if_pos k2] at hk; cases hk
      exact ⟨e, by simp [hty_I, hvi_I, hvr_I, hvl_I, hsz_I, hty_R, hvi_R, hvr_R, hvl_R, hsz_R, hty_L, hvi_L, hvr_L, hvl_L, hsz_L, hty_P, hvi_P, hvr_P, hvl_P, hsz_P, hty_C, hvi_C, hvr_C, hvl_C, hsz_C, k2], EN_ex (ex_ch hq) hSS he⟩
    · rw [if_neg k2] at hk
      obtain ⟨f, f1, f2⟩ := v16 _ x hk
      have hkl := (List.getElem?_eq_some_iff.mp hk).1
      exact ⟨f, by simp [hty_I, hvi_I, hvr_I, hvl_I, hsz_I, hty_R, hvi_R, hvr_R, hvl_R, hsz_R, hty_L, hvi_L, hvr_L, hvl_L, hsz_L, hty_P, hvi_P, hvr_P, hvl_P, hsz_P, hty_C, hvi_C, hvr_C, hvl_C, hsz_C, k2, r2 k (by omega) (by omega), f1], EN_ex (ex_ch hq) hSS f2⟩
theorem ins_loop {G : Nat → Nat} {d a e : Nat} {h : mH} {C : mQ} {X : mX} {v : aN} {p : aE} (hd : 1 ≤ d) (hv : ND h a v) (he : EN h e p) (hn : (nE v).length < nMx v)
    (hC : ∀ h', ch (fun x => x = a ∨ x = a + 2) h h' → ND h' a (vE v (insE (nE v) p)) → (∀ j, hvr h' a j = hvr h a j) → C none h') :
    ∀ (m : Nat) (h1 : mH), m ≤ (nE v).length → ch (fun x => x = a + 2) h h1 → (∀ k, k < m → hvr h1 (a + 2) k = hvr h (a + 2) k) → (∀ k, m < k → k ≤ (nE v).length → hvr h1 (a + 2) k = hvr h (a + 2) (k - 1)) → insK (nE v) p.1 (nE v).length = insK (nE v) p.1 m →
    wp G d 40 100018 [some (.inr (.inl (some a))), some (.inr (.inl (some e))), some (.inl (m : Int))] [] h1 0 0 C X := by
  have hd0 : (0 < d) = True := eq_true (by omega)
  have hmx := nMx_le v
  have hvv := hv
  obtain ⟨v1, v2, v3, v4, v5, v6, v7, v8, v9, v10, v11, v12, v13, v14, v15, v16⟩ := hvv
  obtain ⟨b, b1, b2, b3⟩ := EN_b he
  intro m
  induction m with
  | zero =>
    intro h1 hm q r1 r2 hk
    have hf := ins_fin hv he hn (by rw [hk]; rfl) q r1 r2
    have hz := hC _ hf.1 hf.2.1 hf.2.2
    have t1 : hty h1 a = some (5, 10) := by rw [q.2.1]; exact v1
    have t2 : hty h1 (a + 2) = some (25, nMx v) := by rw [q.2.1]; exact v14
    have t3 : hty h1 e = some (0, 2) := by rw [q.2.1]; exact he.1
    have t4 : hvr h1 a 4 = some (a + 2) := by rw [(q.2.2.2 a (by omega) 4).1]; exact v6
    have t5 : hvi h1 a 5 = ((nE v).length : Int) := by rw [(q.2.2.2 a (by omega) 5).2]; exact v7
    have t6 : 0 < nMx v := by omega
    rw [wp_hd]
    (repeat' (first | with_reducible assumption | (refine And.intro ?_ ?_) | (with_reducible intro _) | (simp [wp_eq, wpE, mk_X5_insert, mg, mc_X5_insert, lget, lset, popN, cats, rcv, entL, isArr, kC_s, kC_n, st1, st2, st3, st4, st5, st6, st7, st8, st9, st10, st11, st12, st13, st14, st15, st16, st17, st18, st19, st20, st21, st22, st23, st24, st25, st26, st27, st28, st29, st30, st31, st32, st33, st34, st35, st36, st37, st38, st39, st40, st41, st42, st43, st44, st45, st46, st47, st48, st49, st50, st51, st52, st53, st54, st55, st56, st57, st58, st59, st60, st61, st62, st63, st64, st65, st66, st67, st68, st69, st70, st71, st72, st73, st74, st75, st76, st77, st78, st79, st80, st81, st82, st83, st84, st85, st86, st87, st88, st89, st90, st91, t1, t2, t3, t4, t5, t6, inR, hty_I, hvi_I, hvr_I, hvl_I, hsz_I, hty_R, hvi_R, hvr_R, hvl_R, hsz_R, hty_L, hvi_L, hvr_L, hvl_L, hsz_L, hty_P, hvi_P, hvr_P, hvl_P, hsz_P, hty_C, hvi_C, hvr_C, hvl_C, hsz_C, elT]))) <;> (try omega)
  | succ m ih =>
    intro h1 hm q r1 r2 hk
    have t1 : hty h1 a = some (5, 10) := by rw [q.2.1]; exact v1
    have t2 : hty h1 (a + 2) = some (25, nMx v) := by rw [q.2.1]; exact v14
    have t3 : hty h1 e = some (0, 2) := by rw [q.2.1]; exact he.1
    have t4 : hvr h1 a 4 = some (a + 2) := by rw [(q.2.2.2 a (by omega) 4).1]; exact v6
    have t5 : hvi h1 a 5 = ((nE v).length : Int) := by rw [(q.2.2.2 a (by omega) 5).2]; exact v7
    have hp : (nE v)[m]? = some ((nE v)[m]'(by omega)) := List.getElem?_eq_getElem (by omega)
    obtain ⟨f, f1, f2⟩ := v16 m _ hp
    have hSS : ∀ x, x = a + 2 → ¬ hty h x = some (0, 2) ∧ ∀ n, n ≤ 14 → ¬ hty h x = some (21, n) := fun x hx => by subst hx; rw [v14]; simp
    have f3 := EN_ex (ex_ch q) hSS f2
    have he1 := EN_ex (ex_ch q) hSS he
    obtain ⟨b, b1, b2, b3⟩ := EN_b he1
    have f4 : hvr h1 (a + 2) m = some f := by rw [r1 m (by omega)]; exact f1
    have f5 := f3.1
    have e1 : ((m + 1 : Nat) : Int) - 1 = (m : Int) := by omega
    have e2 : ((m + 1 : Nat) : Int) + -1 = (m : Int) := by omega
    have e3 : ((m + 1 : Nat) : Int).toNat = m + 1 := by omega
    have e4 : 0 < ((m + 1 : Nat) : Int) := by omega
    simp only [insK, hp, Option.getD_some] at hk
    rw [wp_hd]
    by_cases hc : 0 < cmpv ((nE v)[m]'(by omega)).1 p.1
    · rw [if_pos hc] at hk
      have hz := ih (hsetR h1 (a + 2) (m + 1) (some f)) (by omega) (ch_trans q (ch_R rfl)) (fun k hk => by simp [hty_I, hvi_I, hvr_I, hvl_I, hsz_I, hty_R, hvi_R, hvr_R, hvl_R, hsz_R, hty_L, hvi_L, hvr_L, hvl_L, hsz_L, hty_P, hvi_P, hvr_P, hvl_P, hsz_P, hty_C, hvi_C, hvr_C, hvl_C, hsz_C, show ¬ k = m + 1 by omega]; exact r1 k (by omega)) (fun k k1 k2 => by
        by_cases he : k = m + 1
        · subst he; simp [hty_I, hvi_I, hvr_I, hvl_I, hsz_I, hty_R, hvi_R, hvr_R, hvl_R, hsz_R, hty_L, hvi_L, hvr_L, hvl_L, hsz_L, hty_P, hvi_P, hvr_P, hvl_P, hsz_P, hty_C, hvi_C, hvr_C, hvl_C, hsz_C, f1]
        · simp [hty_I, hvi_I, hvr_I, hvl_I, hsz_I, hty_R, hvi_R, hvr_R, hvl_R, hsz_R, hty_L, hvi_L, hvr_L, hvl_L, hsz_L, hty_P, hvi_P, hvr_P, hvl_P, hsz_P, hty_C, hvi_C, hvr_C, hvl_C, hsz_C, he]; exact r2 k (by omega) k2) hk
      (repeat' (first | with_reducible assumption | (refine c_orderTo0 f3 he1.2.1 b2 he1.2.2.1 b3 ?_) | (refine And.intro ?_ ?_) | (with_reducible intro _) | (simp [wp_eq, wpE, mk_X5_insert, mg, mc_X5_insert, lget, lset, popN, cats, rcv, entL, isArr, kC_s, kC_n, st1, st2, st3, st4, st5, st6, st7, st8, st9, st10, st11, st12, st13, st14, st15, st16, st17, st18, st19, st20, st21, st22, st23, st24, st25, st26, st27, st28, st29, st30, st31, st32, st33, st34, st35, st36, st37, st38, st39, st40, st41, st42, st43, st44, st45, st46, st47, st48, st49, st50, st51, st52, st53, st54, st55, st56, st57, st58, st59, st60, st61, st62, st63, st64, st65, st66, st67, st68, st69, st70, st71, st72, st73, st74, st75, st76, st77, st78, st79, st80, st81, st82, st83, st84, st85, st86, st87, st88, st89, st90, st91, -Int.natCast_add, t1, t2, t3, t4, t5, e1, e2, e3, e4, f4, f5, b1, b2, hd0, hc, inR, hty_I, hvi_I, hvr_I, hvl_I, hsz_I, hty_R, hvi_R, hvr_R, hvl_R, hsz_R, hty_L, hvi_L, hvr_L, hvl_L, hsz_L, hty_P, hvi_P, hvr_P, hvl_P, hsz_P, hty_C, hvi_C, hvr_C, hvl_C, hsz_C, elT]))) <;> (try omega)
    · rw [if_neg hc] at hk
      have hf := ins_fin hv he hn hk q r1 r2
      have hz := hC _ hf.1 hf.2.1 hf.2.2
      (repeat' (first | with_reducible assumption | (refine c_orderTo0 f3 he1.2.1 b2 he1.2.2.1 b3 ?_) | (refine And.intro ?_ ?_) | (with_reducible intro _) | (simp [wp_eq, wpE, mk_X5_insert, mg, mc_X5_insert, lget, lset, popN, cats, rcv, entL, isArr, kC_s, kC_n, st1, st2, st3, st4, st5, st6, st7, st8, st9, st10, st11, st12, st13, st14, st15, st16, st17, st18, st19, st20, st21, st22, st23, st24, st25, st26, st27, st28, st29, st30, st31, st32, st33, st34, st35, st36, st37, st38, st39, st40, st41, st42, st43, st44, st45, st46, st47, st48, st49, st50, st51, st52, st53, st54, st55, st56, st57, st58, st59, st60, st61, st62, st63, st64, st65, st66, st67, st68, st69, st70, st71, st72, st73, st74, st75, st76, st77, st78, st79, st80, st81, st82, st83, st84, st85, st86, st87, st88, st89, st90, st91, -Int.natCast_add, t1, t2, t3, t4, t5, e1, e2, e3, e4, f4, f5, b1, b2, hd0, hc, inR, hty_I, hvi_I, hvr_I, hvl_I, hsz_I, hty_R, hvi_R, hvr_R, hvl_R, hsz_R, hty_L, hvi_L, hvr_L, hvl_L, hsz_L, hty_P, hvi_P, hvr_P, hvl_P, hsz_P, hty_C, hvi_C, hvr_C, hvl_C, hsz_C, elT]))) <;> (try omega)
theorem c_insert {G : Nat → Nat} {d a e : Nat} {h : mH} {C : mQ} {X : mX} {v : aN} {p : aE} (hd : 2 ≤ d) (hv : ND h a v) (he : EN h e p) (hn : (nE v).length < nMx v)
    (hC : ∀ h', ch (fun x => x = a ∨ x = a + 2) h h' → ND h' a (vE v (insE (nE v) p)) → (∀ j, hvr h' a j = hvr h a j) → C none h') :
    callG (wp G) d 40 0 0 3 [.inr (.inl (some a)), .inr (.inl (some e))] h C X := by
  have hvv := hv
  obtain ⟨v1, v2, v3, v4, v5, v6, v7, v8, v9, v10, v11, v12, v13, v14, v15, v16⟩ := hvv
  refine cg 1 (by omega) (fun d hd => ?_)
  have hd0 : (0 < d) = True := eq_true (by omega)
  have hz := ins_loop (G := G) (d := d) (X := fun _ _ => False) hd hv he hn hC (nE v).length h (Nat.le_refl _) ch_refl (fun _ _ => rfl) (fun k k1 k2 => by omega) rfl
  (repeat' (first | with_reducible assumption | (refine And.intro ?_ ?_) | (with_reducible intro _) | (simp [wp_eq, wpE, mk_X5_insert, mg, mc_X5_insert, lget, lset, popN, cats, rcv, entL, isArr, kC_s, kC_n, st1, st2, st3, st4, st5, st6, st7, st8, st9, st10, st11, st12, st13, st14, st15, st16, st17, st18, st19, st20, st21, st22, st23, st24, st25, st26, st27, st28, st29, st30, st31, st32, st33, st34, st35, st36, st37, st38, st39, st40, st41, st42, st43, st44, st45, st46, st47, st48, st49, st50, st51, st52, st53, st54, st55, st56, st57, st58, st59, st60, st61, st62, st63, st64, st65, st66, st67, st68, st69, st70, st71, st72, st73, st74, st75, st76, st77, st78, st79, st80, st81, st82, st83, st84, st85, st86, st87, st88, st89, st90, st91, v1, v6, v7, v14, hn]))) <;> (try omega)
theorem delE_idx : ∀ {E : List aE} {i : Nat} {s : List Int} {n : Nat}, unq E → E[i]? = some (s, n) → delE E s = E.eraseIdx i := by
  intro E
  induction E with
  | nil => intro i s n _ h; simp at h
  | cons p E ih =>
    intro i s n hu h
    have h1 := (List.pairwise_cons.mp hu).1
    cases i with
    | zero =>
      simp at h; subst h
      rw [delE_cons hu]; rfl
    | succ i =>
      simp at h
      have hne : ¬ p.1 = s := h1 _ (List.mem_of_getElem? h)
      have := ih (List.pairwise_cons.mp hu).2 h
      simp [delE, hne] at this ⊢
      exact this
theorem EN_inj {h : mH} {e : Nat} {p q : aE} (H1 : EN h e p) (H2 : EN h e q) : p = q := by
  obtain ⟨-, -, -, -, h5, b, h6, h7, h8⟩ := H1
  obtain ⟨-, -, -, -, g5, c, g6, g7, g8⟩ := H2
  rw [h6] at g6; cases g6
  rw [h7] at g7
  have hl : p.1.length = q.1.length := by injection g7 with g7; injection g7
  have h1 : p.1 = q.1 := by
    apply List.ext_getElem hl
    intro n a b
    have x1 := h8 n a
    have x2 := g8 n b
    rw [x1] at x2
    simpa [lf, a, b] using x2
  have h2 : p.2 = q.2 := by rw [h5] at g5; omega
  exact Prod.ext h1 h2
/-- how many are kept before i -/
def kpt (ix i : Nat) : Nat := if i ≤ ix then i else i - 1
theorem rm_loop2 {G : Nat → Nat} {d a e m M : Nat} {h : mH} {C : mQ} {X : mX} (v1 : hty h a = some (5, 10)) (v14 : hty h (a + 2) = some (25, M)) (v6 : hvr h a 4 = some (a + 2)) (hmx : M ≤ 12) (hC : ∀ h', ch (fun x => x = a + 2) h h' → (∀ k, k < m → hvr h' (a + 2) k = hvr h (a + 2) k) → C none (hsetI h' a 5 (m : Int))) :
    ∀ (n i : Nat) (h1 : mH), n + i = M → m ≤ i → ch (fun x => x = a + 2) h h1 → (∀ k, k < m → hvr h1 (a + 2) k = hvr h (a + 2) k) →
    wp G d 41 100054 [some (.inr (.inl (some a))), some (.inr (.inl (some e))), some (.inl (m : Int)), some (.inl (i : Int))] [] h1 0 0 C X := by
  intro n
  induction n with
  | zero =>
    intro i h1 hi hmi q r1
    have hz := hC h1 q r1
    have t1 : hty h1 a = some (5, 10) := by rw [q.2.1]; exact v1
    have t2 : hty h1 (a + 2) = some (25, M) := by rw [q.2.1]; exact v14
    have t4 : hvr h1 a 4 = some (a + 2) := by rw [(q.2.2.2 a (by omega) 4).1]; exact v6
    have t5 : ¬ i < M := by omega
    rw [wp_hd]
    (repeat' (first | with_reducible assumption | (refine And.intro ?_ ?_) | (with_reducible intro _) | (simp [wp_eq, wpE, mk_X5_remove, mg, mc_X5_remove, lget, lset, popN, cats, rcv, entL, isArr, kC_s, kC_n, st1, st2, st3, st4, st5, st6, st7, st8, st9, st10, st11, st12, st13, st14, st15, st16, st17, st18, st19, st20, st21, st22, st23, st24, st25, st26, st27, st28, st29, st30, st31, st32, st33, st34, st35, st36, st37, st38, st39, st40, st41, st42, st43, st44, st45, st46, st47, st48, st49, st50, st51, st52, st53, st54, st55, st56, st57, st58, st59, st60, st61, st62, st63, st64, st65, st66, st67, st68, st69, st70, st71, st72, st73, st74, st75, st76, st77, st78, st79, st80, st81, st82, st83, st84, st85, st86, st87, st88, st89, st90, st91, t1, t2, t4, t5]))) <;> (try omega)
  | succ n ih =>
    intro i h1 hi hmi q r1
    have hz := ih (i + 1) (hsetR h1 (a + 2) i none) (by omega) (by omega) (ch_trans q (ch_R rfl)) (fun k hk => by simp [hty_I, hvi_I, hvr_I, hvl_I, hsz_I, hty_R, hvi_R, hvr_R, hvl_R, hsz_R, hty_L, hvi_L, hvr_L, hvl_L, hsz_L, hty_P, hvi_P, hvr_P, hvl_P, hsz_P, hty_C, hvi_C, hvr_C, hvl_C, hsz_C, show ¬ k = i by omega]; exact r1 k hk)
    have t1 : hty h1 a = some (5, 10) := by rw [q.2.1]; exact v1
    have t2 : hty h1 (a + 2) = some (25, M) := by rw [q.2.1]; exact v14
    have t4 : hvr h1 a 4 = some (a + 2) := by rw [(q.2.2.2 a (by omega) 4).1]; exact v6
    have t5 : i < M := by omega
    rw [wp_hd]
    (repeat' (first | with_reducible assumption | (refine And.intro ?_ ?_) | (with_reducible intro _) | (simp [wp_eq, wpE, mk_X5_remove, mg, mc_X5_remove, lget, lset, popN, cats, rcv, entL, isArr, kC_s, kC_n, st1, st2, st3, st4, st5, st6, st7, st8, st9, st10, st11, st12, st13, st14, st15, st16, st17, st18, st19, st20, st21, st22, st23, st24, st25, st26, st27, st28, st29, st30, st31, st32, st33, st34, st35, st36, st37, st38, st39, st40, st41, st42, st43, st44, st45, st46, st47, st48, st49, st50, st51, st52, st53, st54, st55, st56, st57, st58, st59, st60, st61, st62, st63, st64, st65, st66, st67, st68, st69, st70, st71, st72, st73, st74, st75, st76, st77, st78, st79, st80, st81, st82, st83, st84, st85, st86, st87, st88, st89, st90, st91, t1, t2, t4, t5, inR]))) <;> (try omega)
    exact hz
theorem rm_loop {G : Nat → Nat} {d a e ix : Nat} {h : mH} {C : mQ} {X : mX} {v : aN} {p : aE} (hv : ND h a v) (hu : unq (nE v)) (hp : (nE v)[ix]? = some p) (he : hvr h (a + 2) ix = some e)
    (hC : ∀ h', ch (fun x => x = a + 2) h h' → (∀ k, k + 1 < (nE v).length → hvr h' (a + 2) k = hvr h (a + 2) (if k < ix then k else k + 1)) → C none (hsetI h' a 5 (((nE v).length - 1 : Nat) : Int))) :
    ∀ (n i : Nat) (h1 : mH), n + i = (nE v).length → ch (fun x => x = a + 2) h h1 → (∀ k, k < kpt ix i → hvr h1 (a + 2) k = hvr h (a + 2) (if k < ix then k else k + 1)) → (∀ k, i ≤ k → hvr h1 (a + 2) k = hvr h (a + 2) k) →
    wp G d 41 100004 [some (.inr (.inl (some a))), some (.inr (.inl (some e))), some (.inl (kpt ix i : Int)), some (.inl (i : Int))] [] h1 0 0 C X := by
  have hvv := hv
  obtain ⟨v1, v2, v3, v4, v5, v6, v7, v8, v9, v10, v11, v12, v13, v14, v15, v16⟩ := hvv
  have hmx := nMx_le v
  have hix := (List.getElem?_eq_some_iff.mp hp).1
  have hSS : ∀ x, x = a + 2 → ¬ hty h x = some (0, 2) ∧ ∀ n, n ≤ 14 → ¬ hty h x = some (21, n) := fun x hx => by subst hx; rw [v14]; simp
  intro n
  induction n with
  | zero =>
    intro i h1 hi q r1 r2
    have t1 : hty h1 a = some (5, 10) := by rw [q.2.1]; exact v1
    have t2 : hty h1 (a + 2) = some (25, nMx v) := by rw [q.2.1]; exact v14
    have t4 : hvr h1 a 4 = some (a + 2) := by rw [(q.2.2.2 a (by omega) 4).1]; exact v6
    have t5 : hvi h1 a 5 = ((nE v).length : Int) := by rw [(q.2.2.2 a (by omega) 5).2]; exact v7
    have hi' : i = (nE v).length := by omega
    have hk : kpt ix i = (nE v).length - 1 := by unfold kpt; rw [if_neg (by omega)]; omega
    rw [hk] at r1 ⊢
    generalize hm : (nE v).length - 1 = m at *
    have hz := rm_loop2 (G := G) (d := d) (e := e) (C := C) (X := X) (m := m) t1 t2 t4 hmx (fun h' q' r' => hC h' (ch_trans q q') (fun k hk => (r' k (by omega)).trans (r1 k (by omega)))) (nMx v - m) m h1 (by omega) (Nat.le_refl _) ch_refl (fun _ _ => rfl)
    rw [wp_hd]
    (repeat' (first | with_reducible assumption | (refine And.intro ?_ ?_) | (with_reducible intro _) | (simp [wp_eq, wpE, mk_X5_remove, mg, mc_X5_remove, lget, lset, popN, cats, rcv, entL, isArr, kC_s, kC_n, st1, st2, st3, st4, st5, st6, st7, st8, st9, st10, st11, st12, st13, st14, st15, st16, st17, st18, st19, st20, st21, st22, st23, st24, st25, st26, st27, st28, st29, st30, st31, st32, st33, st34, st35, st36, st37, st38, st39, st40, st41, st42, st43, st44, st45, st46, st47, st48, st49, st50, st51, st52, st53, st54, st55, st56, st57, st58, st59, st60, st61, st62, st63, st64, st65, st66, st67, st68, st69, st70, st71, st72, st73, st74, st75, st76, st77, st78, st79, st80, st81, st82, st83, st84, st85, st86, st87, st88, st89, st90, st91, t1, t2, t4, t5, hi']))) <;> (try omega)
  | succ n ih =>
    intro i h1 hi q r1 r2
    have t1 : hty h1 a = some (5, 10) := by rw [q.2.1]; exact v1
    have t2 : hty h1 (a + 2) = some (25, nMx v) := by rw [q.2.1]; exact v14
    have t4 : hvr h1 a 4 = some (a + 2) := by rw [(q.2.2.2 a (by omega) 4).1]; exact v6
    have t5 : hvi h1 a 5 = ((nE v).length : Int) := by rw [(q.2.2.2 a (by omega) 5).2]; exact v7
    have hpi : (nE v)[i]? = some ((nE v)[i]'(by omega)) := List.getElem?_eq_getElem (by omega)
    obtain ⟨f, f1, f2⟩ := v16 i _ hpi
    have f3 := EN_ex (ex_ch q) hSS f2
    have f4 : hvr h1 (a + 2) i = some f := by rw [r2 i (Nat.le_refl _)]; exact f1
    have f5 := f3.1
    have t6 : i < (nE v).length := by omega
    have t7 : i < nMx v := by omega
    rw [wp_hd]
    by_cases hc : i = ix
    · have hfe : f = e := by rw [hc, he] at f1; cases f1; rfl
      have hk : kpt ix i = i := by unfold kpt; rw [if_pos (by omega)]
      have hk1 : kpt ix (i + 1) = i := by unfold kpt; rw [if_neg (by omega)]; omega
      have hz := ih (i + 1) h1 (by omega) q (by rw [hk1, ← hk]; exact r1) (fun k hk => r2 k (by omega))
      rw [hk1] at hz
      rw [hk]
      (repeat' (first | with_reducible assumption | (refine And.intro ?_ ?_) | (with_reducible intro _) | (simp [wp_eq, wpE, mk_X5_remove, mg, mc_X5_remove, lget, lset, popN, cats, rcv, entL, isArr, kC_s, kC_n, st1, st2, st3, st4, st5, st6, st7, st8, st9, st10, st11, st12, st13, st14, st15, st16, st17, st18, st19, st20, st21, st22, st23, st24, st25, st26, st27, st28, st29, st30, st31, st32, st33, st34, st35, st36, st37, st38, st39, st40, st41, st42, st43, st44, st45, st46, st47, st48, st49, st50, st51, st52, st53, st54, st55, st56, st57, st58, st59, st60, st61, st62, st63, st64, st65, st66, st67, st68, st69, st70, st71, st72, st73, st74, st75, st76, st77, st78, st79, st80, st81, st82, st83, st84, st85, st86, st87, st88, st89, st90, st91, t1, t2, t4, t5, t6, t7, f4, hfe, inR]))) <;> (try omega)
      all_goals exact hz
    · have hfe : ¬ f = e := fun z => by
        subst z
        have w := v16 ix p hp
        obtain ⟨g, g1, g2⟩ := w
        rw [he] at g1; cases g1
        have hpp := EN_inj f2 g2
        obtain ⟨k1, k2⟩ := List.getElem?_eq_some_iff.mp hp
        rcases Nat.lt_or_gt_of_ne hc with z | z
        · exact List.pairwise_iff_getElem.mp hu i ix (by omega) k1 z (by rw [hpp, k2])
        · exact List.pairwise_iff_getElem.mp hu ix i k1 (by omega) z (by rw [hpp, k2])
      have hk1 : kpt ix (i + 1) = kpt ix i + 1 := by unfold kpt; split <;> split <;> omega
      have hki : kpt ix i ≤ i := by unfold kpt; split <;> omega
      have hik : (if kpt ix i < ix then kpt ix i else kpt ix i + 1) = i := by unfold kpt; split <;> split <;> omega
      generalize hkk : kpt ix i = kk at *
      have hz := ih (i + 1) (hsetR h1 (a + 2) kk (some f)) (by omega) (ch_trans q (ch_R rfl)) (by
        rw [hk1]
        intro k hk
        by_cases hkk2 : k = kk
        · subst hkk2; rw [hik]; simp [hty_I, hvi_I, hvr_I, hvl_I, hsz_I, hty_R, hvi_R, hvr_R, hvl_R, hsz_R, hty_L, hvi_L, hvr_L, hvl_L, hsz_L, hty_P, hvi_P, hvr_P, hvl_P, hsz_P, hty_C, hvi_C, hvr_C, hvl_C, hsz_C, f1]
        · simp [hty_I, hvi_I, hvr_I, hvl_I, hsz_I, hty_R, hvi_R, hvr_R, hvl_R, hsz_R, hty_L, hvi_L, hvr_L, hvl_L, hsz_L, hty_P, hvi_P, hvr_P, hvl_P, hsz_P, hty_C, hvi_C, hvr_C, hvl_C, hsz_C, hkk2]; exact r1 k (by omega)) (fun k hk => by simp [hty_I, hvi_I, hvr_I, hvl_I, hsz_I, hty_R, hvi_R, hvr_R, hvl_R, hsz_R, hty_L, hvi_L, hvr_L, hvl_L, hsz_L, hty_P, hvi_P, hvr_P, hvl_P, hsz_P, hty_C, hvi_C, hvr_C, hvl_C, hsz_C, show ¬ k = kk by omega]; exact r2 k (by omega))
      rw [hk1] at hz
      (repeat' (first | with_reducible assumption | (refine And.intro ?_ ?_) | (with_reducible intro _) | (simp [wp_eq, wpE, mk_X5_remove, mg, mc_X5_remove, lget, lset, popN, cats, rcv, entL, isArr, kC_s, kC_n, st1, st2, st3, st4, st5, st6, st7, st8, st9, st10, st11, st12, st13, st14, st15, st16, st17, st18, st19, st20, st21, st22, st23, st24, st25, st26, st27, st28, st29, st30, st31, st32, st33, st34, st35, st36, st37, st38, st39, st40, st41, st42, st43, st44, st45, st46, st47, st48, st49, st50, st51, st52, st53, st54, st55, st56, st57, st58, st59, st60, st61, st62, st63, st64, st65, st66, st67, st68, st69, st70, st71, st72, st73, st74, st75, st76, st77, st78, st79, st80, st81, st82, st83, st84, st85, st86, st87, st88, st89, st90, st91, t1, t2, t4, t5, t6, t7, f4, f5, hfe, inR, elT]))) <;> (try omega)
      all_goals exact hz
theorem c_remove {G : Nat → Nat} {d a e ix : Nat} {h : mH} {C : mQ} {X : mX} {v : aN} {p : aE} (hv : ND h a v) (hu : unq (nE v)) (hp : (nE v)[ix]? = some p) (he : hvr h (a + 2) ix = some e)
    (hC : ∀ h', ch (fun x => x = a ∨ x = a + 2) h h' → ND h' a (vE v (delE (nE v) p.1)) → (∀ j, hvr h' a j = hvr h a j) → C none h') :
    callG (wp G) d 41 0 0 4 [.inr (.inl (some a)), .inr (.inl (some e))] h C X := by
  have hvv := hv
  obtain ⟨v1, v2, v3, v4, v5, v6, v7, v8, v9, v10, v11, v12, v13, v14, v15, v16⟩ := hvv
  have hix := (List.getElem?_eq_some_iff.mp hp).1
  have hSS : ∀ x, (x = a ∨ x = a + 2) → ¬ hty h x = some (0, 2) ∧ ∀ n, n ≤ 14 → ¬ hty h x = some (21, n) := fun x hx => by
    rcases hx with rfl | rfl
    · rw [v1]; simp
    · rw [v14]; simp
  have hz := rm_loop (G := G) (d := d - 1) (C := C) (X := fun _ _ => False) hv hu hp he (fun h1 q r => by
    have hq : ch (fun x => x = a ∨ x = a + 2) h (hsetI h1 a 5 (((nE v).length - 1 : Nat) : Int)) := ch_trans (ch_mono (fun x z => Or.inr z) q) (ch_I (Or.inl rfl))
    have hra : ∀ j, hvr h1 a j = hvr h a j := fun j => (q.2.2.2 a (by omega) j).1
    have hia : ∀ j, hvi h1 a j = hvi h a j := fun j => (q.2.2.2 a (by omega) j).2
    have hde : delE (nE v) p.1 = (nE v).eraseIdx ix := delE_idx (n := p.2) hu hp
    have hdl : (delE (nE v) p.1).length = (nE v).length - 1 := by rw [hde, List.length_eraseIdx, if_pos hix]
    refine hC _ hq (ND_row hv (ex_ch hq) (fun x z => z) (fun j hj => by simp [hty_I, hvi_I, hvr_I, hvl_I, hsz_I, hty_R, hvi_R, hvr_R, hvl_R, hsz_R, hty_L, hvi_L, hvr_L, hvl_L, hsz_L, hty_P, hvi_P, hvr_P, hvl_P, hsz_P, hty_C, hvi_C, hvr_C, hvl_C, hsz_C, hj, hia]) (fun j _ => by simp [hty_I, hvi_I, hvr_I, hvl_I, hsz_I, hty_R, hvi_R, hvr_R, hvl_R, hsz_R, hty_L, hvi_L, hvr_L, hvl_L, hsz_L, hty_P, hvi_P, hvr_P, hvl_P, hsz_P, hty_C, hvi_C, hvr_C, hvl_C, hsz_C, hra]) (by rw [hdl]; simp [hty_I, hvi_I, hvr_I, hvl_I, hsz_I, hty_R, hvi_R, hvr_R, hvl_R, hsz_R, hty_L, hvi_L, hvr_L, hvl_L, hsz_L, hty_P, hvi_P, hvr_P, hvl_P, hsz_P, hty_C, hvi_C, hvr_C, hvl_C, hsz_C]) (by omega) (fun k x hk => ?_)) (fun j => by simp [hty_I, hvi_I, hvr_I, hvl_I, hsz_I, hty_R, hvi_R, hvr_R, hvl_R, hsz_R, hty_L, hvi_L, hvr_L, hvl_L, hsz_L, hty_P, hvi_P, hvr_P, hvl_P, hsz_P, hty_C, hvi_C, hvr_C, hvl_C, hsz_C, hra])
    have hkl := (List.getElem?_eq_some_iff.mp hk).1
    rw [hdl] at hkl
    rw [hde, List.getElem?_eraseIdx] at hk
    have hk2 : (nE v)[if k < ix then k else k + 1]? = some x := by
      split at hk
      · rename_i z; rw [if_pos z]; exact hk
      · rename_i z; rw [if_neg z]; exact hk
    obtain ⟨f, f1, f2⟩ := v16 _ x hk2
    exact ⟨f, by simp only [hvr_I]; rw [r k (by omega)]; exact f1, EN_ex (ex_ch hq) hSS f2⟩) (nE v).length 0 h (by omega) ch_refl (fun k hk => by simp [kpt] at hk) (fun _ _ => rfl)
  refine ⟨C, fun _ _ => False, ?_, fun _ _ q => q, fun _ _ q => q.elim⟩
  simp [kpt] at hz
  (repeat' (first | with_reducible assumption | (refine And.intro ?_ ?_) | (with_reducible intro _) | (simp [wp_eq, wpE, mk_X5_remove, mg, mc_X5_remove, lget, lset, popN, cats, rcv, entL, isArr, kC_s, kC_n, st1, st2, st3, st4, st5, st6, st7, st8, st9, st10, st11, st12, st13, st14, st15, st16, st17, st18, st19, st20, st21, st22, st23, st24, st25, st26, st27, st28, st29, st30, st31, st32, st33, st34, st35, st36, st37, st38, st39, st40, st41, st42, st43, st44, st45, st46, st47, st48, st49, st50, st51, st52, st53, st54, st55, st56, st57, st58, st59, st60, st61, st62, st63, st64, st65, st66, st67, st68, st69, st70, st71, st72, st73, st74, st75, st76, st77, st78, st79, st80, st81, st82, st83, st84, st85, st86, st87, st88, st89, st90, st91]))) <;> (try omega)
