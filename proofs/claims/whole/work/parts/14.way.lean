/-! THE WAY of the class -/
theorem wp_ne (n : Nat) {G : Nat → Nat} {d k pc : Nat} {ls : List (Option mV)} {st : List mV} {h : mH} {bc bs : Nat} {Q : mQ} {X : mX} (_ : pc < 100000) (_ : pc ≠ n) : wp G d k pc ls st h bc bs Q X = wpE G (wp G) d k pc ls st h bc bs Q X := wp_hd
def ch (S : Nat → Prop) (h h' : mH) : Prop := hsz h' = hsz h ∧ (∀ a, hty h' a = hty h a) ∧ (∀ a j, hvl h' a j = hvl h a j) ∧ ∀ a, ¬ S a → ∀ j, hvr h' a j = hvr h a j ∧ hvi h' a j = hvi h a j
theorem ch_refl {S : Nat → Prop} {h : mH} : ch S h h := ⟨rfl, fun _ => rfl, fun _ _ => rfl, fun _ _ _ => ⟨rfl, rfl⟩⟩
theorem ch_trans {S : Nat → Prop} {h1 h2 h3 : mH} (p : ch S h1 h2) (q : ch S h2 h3) : ch S h1 h3 :=
  ⟨q.1.trans p.1, fun a => (q.2.1 a).trans (p.2.1 a), fun a j => (q.2.2.1 a j).trans (p.2.2.1 a j), fun a n j => ⟨((q.2.2.2 a n j).1).trans (p.2.2.2 a n j).1, ((q.2.2.2 a n j).2).trans (p.2.2.2 a n j).2⟩⟩
theorem ch_mono {S T : Nat → Prop} {h h' : mH} (hS : ∀ a, S a → T a) (p : ch S h h') : ch T h h' := ⟨p.1, p.2.1, p.2.2.1, fun a n j => p.2.2.2 a (fun q => n (hS a q)) j⟩
theorem ch_I {S : Nat → Prop} {h : mH} {a i : Nat} {v : Int} (hS : S a) : ch S h (hsetI h a i v) :=
  ⟨rfl, fun _ => rfl, fun _ _ => rfl, fun b n j => ⟨rfl, by rw [hvi_I]; exact if_neg (fun q => n (by rw [q.1]; exact hS))⟩⟩
theorem ch_R {S : Nat → Prop} {h : mH} {a i : Nat} {v : Option Nat} (hS : S a) : ch S h (hsetR h a i v) :=
  ⟨rfl, fun _ => rfl, fun _ _ => rfl, fun b n j => ⟨by rw [hvr_R]; exact if_neg (fun q => n (by rw [q.1]; exact hS)), rfl⟩⟩
theorem ch_C {S : Nat → Prop} {h : mH} {a i b j n : Nat} (hS : S b) : ch S h (hcpy h a i b j n) :=
  ⟨rfl, fun _ => rfl, fun _ _ => rfl, fun c m k => ⟨rfl, by rw [hvi_C]; exact if_neg (fun q => m (by rw [q.1]; exact hS))⟩⟩
theorem ch_ofI {S : Nat → Prop} {h h' : mH} (p : chI S h h') : ch S h h' := ⟨p.1, p.2.1, p.2.2.2.1, fun a n j => ⟨p.2.2.1 a j, p.2.2.2.2 a j n⟩⟩
theorem hII {h : mH} {a i : Nat} {v w : Int} : hsetI (hsetI h a i v) a i w = hsetI h a i w := by
  refine hx_ext rfl (fun _ => rfl) (fun b j => ?_) (fun _ _ => rfl) (fun _ _ => rfl)
  simp only [hvi_I]; split <;> rfl
theorem hIs {h : mH} {a i : Nat} {v : Int} (e : hvi h a i = v) : hsetI h a i v = h := by
  refine hx_ext rfl (fun _ => rfl) (fun b j => ?_) (fun _ _ => rfl) (fun _ _ => rfl)
  simp only [hvi_I]; split
  · rename_i q; rw [q.1, q.2, e]
  · rfl
/-- a kind that no node, entry, name, text or row of them has -/
def frn (o : Option (Nat × Nat)) : Prop := o ≠ some (5, 10) ∧ o ≠ some (0, 2) ∧ o ≠ some (7, 3) ∧ o ≠ some (24, 48) ∧ (∀ n, o ≠ some (25, n)) ∧ ∀ n, n ≤ 40 → o ≠ some (21, n)
theorem EN_ch {S : Nat → Prop} {h h' : mH} {e : Nat} {p : aE} (q : ch S h h') (hS : ∀ a, S a → frn (hty h a)) (H : EN h e p) : EN h' e p := by
  obtain ⟨q1, q2, q3, q4⟩ := q
  obtain ⟨h1, h2, h3, h4, h5, b, h6, h7, h8⟩ := H
  have ne : ¬ S e := fun s => (hS e s).2.1 h1
  have nb : ¬ S b := fun s => (hS b s).2.2.2.2.2 _ (by omega) h7
  exact ⟨by rw [q2]; exact h1, h2, h3, h4, by rw [(q4 e ne 1).2]; exact h5, b, by rw [(q4 e ne 0).1]; exact h6, by rw [q2]; exact h7, fun i hi => by rw [(q4 b nb _).2]; exact h8 i hi⟩
theorem ND_ch {S : Nat → Prop} {h h' : mH} {a : Nat} {v : aN} (q : ch S h h') (hS : ∀ a, S a → frn (hty h a)) (H : ND h a v) : ND h' a v := by
  have qq := q
  obtain ⟨q1, q2, q3, q4⟩ := q
  obtain ⟨v1, v2, v3, v4, v5, v6, v7, v8, v9, v10, v11, v12, v13, v14, v15, v16⟩ := H
  have na : ¬ S a := fun s => (hS a s).1 v1
  have nt : ¬ S (a + 1) := fun s => (hS _ s).2.2.2.2.2 _ v13.2 v11
  have ne : ¬ S (a + 2) := fun s => (hS _ s).2.2.2.2.1 _ v14
  refine ⟨by rw [q2]; exact v1, ?_, ?_, ?_, ?_, ?_, ?_, ?_, ?_, ?_, by rw [q2]; exact v11, fun i hi => by rw [(q4 _ nt _).2]; exact v12 i hi, v13, by rw [q2]; exact v14, v15, fun k p hk => ?_⟩
  · rw [(q4 a na _).2]; exact v2
  · rw [(q4 a na _).2]; exact v3
  · rw [(q4 a na _).2]; exact v4
  · rw [(q4 a na _).1]; exact v5
  · rw [(q4 a na _).1]; exact v6
  · rw [(q4 a na _).2]; exact v7
  · rw [(q4 a na _).2]; exact v8
  · rw [(q4 a na _).2]; exact v9
  · rw [(q4 a na _).2]; exact v10
  · obtain ⟨e, e1, e2⟩ := v16 k p hk
    exact ⟨e, by rw [(q4 _ ne _).1]; exact e1, EN_ch qq hS e2⟩
theorem TR_ch {S : Nat → Prop} {h h' : mH} {t : Nat} {T : aT} {here : Nat} (q : ch S h h') (hS : ∀ a, S a → frn (hty h a)) (H : TR t h T here) : TR t h' T here := by
  have qq := q
  obtain ⟨q1, q2, q3, q4⟩ := q
  obtain ⟨t1, t2, t3, t4, t5, t6, t7, t8⟩ := H
  have nt : ¬ S t := fun s => (hS t s).2.2.1 t1
  have nn : ¬ S (t + 1) := fun s => (hS _ s).2.2.2.1 t3
  refine ⟨by rw [q2]; exact t1, by rw [(q4 t nt _).1]; exact t2, by rw [q2]; exact t3, by rw [(q4 t nt _).2]; exact t4, by rw [(q4 t nt _).2]; exact t5, ?_, ?_, ?_⟩
  · intro n hn hT; rw [(q4 _ nn _).1]; exact t6 n hn hT
  · intro n v hn hT
    obtain ⟨a, a1, a2⟩ := t7 n v hn hT
    exact ⟨a, by rw [(q4 _ nn _).1]; exact a1, ND_ch qq hS a2⟩
  · intro n m a hn hm p1 p2
    rw [(q4 _ nn _).1] at p1 p2
    exact t8 n m a hn hm p1 p2
/-! paths -/
def dsl : List Int → List Int
  | [] => []
  | c :: w => if c = 47 then dsl w else c :: w
def tkw : List Int → List Int
  | [] => []
  | c :: w => if c = 47 then [] else c :: tkw w
def drw : List Int → List Int
  | [] => []
  | c :: w => if c = 47 then c :: w else drw w
def lkE (s : List Int) : List aE → Option Nat
  | [] => none
  | p :: E => if p.1 = s then some p.2 else lkE s E
def tB (T : aT) (n : Nat) : Int := ((T n).map nB).getD 0
def tA (T : aT) (n : Nat) : Nat := ((T n).map nA).getD 0
def tX (T : aT) (n : Nat) : List Int := ((T n).map nX).getD []
def tE (T : aT) (n : Nat) : List aE := ((T n).map nE).getD []
abbrev aC : Type := Option (Nat × List Int)
def stp (T : aT) (fol : Bool) (nd lk : Nat) (w : List Int) : Int ⊕ (Nat × Nat × aC × List Int) :=
  if ¬ tK T nd = 0 then .inl (-3) else if bAnd (tB T nd) 1 = 0 then .inl (-4)
  else if tkw w = [46] then .inr (nd, lk, none, drw w) else if tkw w = [46, 46] then .inr (tA T nd, lk, none, drw w)
  else match lkE (tkw w) (tE T nd) with
    | none => .inl (-2)
    | some n => if tK T n = 2 ∧ (fol = true ∨ ¬ drw w = []) then (if 8 ≤ lk then .inl (-5) else .inr (if lf (tX T n ++ drw w) 0 = 47 then 0 else nd, lk + 1, none, tX T n ++ drw w)) else .inr (n, lk, some (nd, tkw w), drw w)
def wk (T : aT) (fol : Bool) : Nat → Nat → Nat → aC → List Int → Int × aC
  | 0, _, _, _, _ => (-5, none)
  | f + 1, nd, lk, cm, w => if dsl w = [] then (if ¬ w = [] ∧ ¬ tK T nd = 0 then (-3, none) else ((nd : Int), cm)) else match stp T fol nd lk (dsl w) with
    | .inl z => (z, none)
    | .inr q => wk T fol f q.1 q.2.1 q.2.2.1 q.2.2.2
theorem dsl_len : ∀ w, (dsl w).length ≤ w.length := by
  intro w
  induction w with
  | nil => simp [dsl]
  | cons c w ih => simp only [dsl]; split <;> simp <;> omega
theorem tkw_drw : ∀ w, tkw w ++ drw w = w := by
  intro w
  induction w with
  | nil => rfl
  | cons c w ih => simp only [tkw, drw]; split <;> simp [ih]
theorem dsl_head : ∀ w c u, dsl w = c :: u → ¬ c = 47 := by
  intro w
  induction w with
  | nil => intro c u h; simp [dsl] at h
  | cons c w ih =>
    intro x u h
    simp only [dsl] at h
    split at h
    · exact ih x u h
    · rename_i hc; cases h; exact hc
theorem dsl_suf : ∀ w, ∃ u, w = u ++ dsl w := by
  intro w
  induction w with
  | nil => exact ⟨[], rfl⟩
  | cons c w ih =>
    simp only [dsl]
    split
    · obtain ⟨u, hu⟩ := ih; exact ⟨c :: u, by simp [← hu]⟩
    · exact ⟨[], rfl⟩
theorem bd_app {a b : List Int} (ha : bd a) (hb : bd b) : bd (a ++ b) := fun c hc => (List.mem_append.mp hc).elim (ha c) (hb c)
theorem bd_l {a b : List Int} (h : bd (a ++ b)) : bd a := fun c hc => h c (List.mem_append.mpr (Or.inl hc))
theorem bd_r {a b : List Int} (h : bd (a ++ b)) : bd b := fun c hc => h c (List.mem_append.mpr (Or.inr hc))
theorem bd_dsl {w : List Int} (h : bd w) : bd (dsl w) := by obtain ⟨u, hu⟩ := dsl_suf w; rw [hu] at h; exact bd_r h
theorem ro_r {h : mH} {a o : Nat} {u w : List Int} (H : ro h a o (u ++ w)) : ro h a (o + u.length) w := fun i hi => by
  have := H (u.length + i) (by simp; omega)
  rw [lf_app_r (by omega)] at this
  rw [Nat.add_assoc, this]; congr 1; omega
theorem ro_l {h : mH} {a o : Nat} {u w : List Int} (H : ro h a o (u ++ w)) : ro h a o u := fun i hi => by
  have := H i (by simp; omega)
  rw [lf_app_l hi] at this
  exact this
theorem ro_app {h : mH} {a o : Nat} {u w : List Int} (H1 : ro h a o u) (H2 : ro h a (o + u.length) w) : ro h a o (u ++ w) := fun i hi => by
  by_cases hl : i < u.length
  · rw [lf_app_l hl]; exact H1 i hl
  · rw [lf_app_r (by omega)]
    have := H2 (i - u.length) (by simp at hi; omega)
    rw [← this]; congr 1; omega
/-- the Way's cells -/
def WY (y t : Nat) (h : mH) : Prop := hty h y = some (9, 7) ∧ hvr h y 0 = some t ∧ hvr h y 1 = some (y + 1) ∧ hty h (y + 1) = some (21, 420)
theorem dsl_loop {G : Nat → Nat} {d y t : Nat} {C : mQ} {X : mX} {x1 x2 x3 x4 x5 x6 x7 x8 : Option mV} : ∀ (w : List Int) (h : mH), WY y t h → w.length ≤ 420 → hvi h y 2 = 420 - (w.length : Int) → ro h (y + 1) (420 - w.length) w →
    wp G d 64 117 [some (.inr (.inl (some y))), x1, x2, x3, x4, x5, x6, x7, x8] [] (hsetI h y 2 (420 - ((dsl w).length : Int))) 0 0 C X →
    wp G d 64 100080 [some (.inr (.inl (some y))), x1, x2, x3, x4, x5, x6, x7, x8] [] h 0 0 C X := by
  intro w
  induction w with
  | nil =>
    intro h H hl h2 hr hC
    obtain ⟨a1, a2, a3, a4⟩ := H
    rw [hIs (by simp [h2, dsl])] at hC
    rw [wp_hd]
    simp at h2
    simp [wp_ne 117, wpE, mk_X9_along, mg, mc_X9_along, lget, lset, popN, cats, rcv, entL, isArr, kC_s, kC_n, st1, st2, st3, st4, st5, st6, st7, st8, st9, st10, st11, st12, st13, st14, st15, st16, st17, st18, st19, st20, st21, st22, st23, st24, st25, st26, st27, st28, st29, st30, st31, st32, st33, st34, st35, st36, st37, st38, st39, st40, st41, st42, st43, st44, st45, st46, st47, st48, st49, st50, st51, st52, st53, st54, st55, st56, st57, st58, st59, st60, st61, st62, st63, st64, st65, st66, st67, st68, st69, st70, st71, st72, st73, st74, st75, st76, st77, st78, st79, st80, st81, st82, st83, st84, st85, st86, st87, st88, st89, st90, st91, a1, h2]
    exact hC
  | cons c w ih =>
    intro h H hl h2 hr hC
    have hh := H
    obtain ⟨a1, a2, a3, a4⟩ := H
    have hc := hr 0 (by simp)
    simp only [Nat.add_zero] at hc
    have hc2 : hvi h (y + 1) (419 - w.length) = c := by simpa [lf] using hc
    have e1 : (420 - (((w.length : Nat) : Int) + 1)).toNat = 419 - w.length := by omega
    simp at h2 hl
    have e2 : (420 - ((w.length : Int) + 1) + 1) = 420 - (w.length : Int) := by omega
    simp only [dsl] at hC
    rw [wp_hd]
    (repeat' (first | with_reducible assumption | (refine And.intro ?_ ?_) | (with_reducible intro _) | (simp [wp_ne 117, wpE, mk_X9_along, mg, mc_X9_along, lget, lset, popN, cats, rcv, entL, isArr, kC_s, kC_n, st1, st2, st3, st4, st5, st6, st7, st8, st9, st10, st11, st12, st13, st14, st15, st16, st17, st18, st19, st20, st21, st22, st23, st24, st25, st26, st27, st28, st29, st30, st31, st32, st33, st34, st35, st36, st37, st38, st39, st40, st41, st42, st43, st44, st45, st46, st47, st48, st49, st50, st51, st52, st53, st54, st55, st56, st57, st58, st59, st60, st61, st62, st63, st64, st65, st66, st67, st68, st69, st70, st71, st72, st73, st74, st75, st76, st77, st78, st79, st80, st81, st82, st83, st84, st85, st86, st87, st88, st89, st90, st91, a1, a3, a4, h2, e1, e2, hc2, inR]))) <;> (try omega)
    · rename_i hq
      rw [if_neg hq, hIs (by rw [h2]; simp)] at hC
      exact hC
    · rename_i hq
      rw [if_pos hq] at hC
      refine ih (hsetI h y 2 (420 - (w.length : Int))) hh (by omega) (by simp [hty_I, hvi_I, hvr_I, hvl_I, hsz_I, hty_R, hvi_R, hvr_R, hvl_R, hsz_R, hty_L, hvi_L, hvr_L, hvl_L, hsz_L, hty_P, hvi_P, hvr_P, hvl_P, hsz_P, hty_C, hvi_C, hvr_C, hvl_C, hsz_C]) (fun i hi => ?_) (by rw [hII]; exact hC)
      have := hr (i + 1) (by simp; omega)
      simp [hty_I, hvi_I, hvr_I, hvl_I, hsz_I, hty_R, hvi_R, hvr_R, hvl_R, hsz_R, hty_L, hvi_L, hvr_L, hvl_L, hsz_L, hty_P, hvi_P, hvr_P, hvl_P, hsz_P, hty_C, hvi_C, hvr_C, hvl_C, hsz_C]
      rw [show 420 - w.length + i = 420 - (c :: w).length + (i + 1) by simp; omega, this]
      simp [lf]
theorem drw_loop {G : Nat → Nat} {d y t : Nat} {C : mQ} {X : mX} {x1 x2 x3 x4 x5 x6 : Option mV} : ∀ (w : List Int) (h : mH), WY y t h → w.length ≤ 420 → hvi h y 2 = 420 - (w.length : Int) → ro h (y + 1) (420 - w.length) w →
    wp G d 66 42 [some (.inr (.inl (some y))), x1, x2, x3, x4, x5, x6] [] (hsetI h y 2 (420 - ((drw w).length : Int))) 0 0 C X →
    wp G d 66 100005 [some (.inr (.inl (some y))), x1, x2, x3, x4, x5, x6] [] h 0 0 C X := by
  intro w
  induction w with
  | nil =>
    intro h H hl h2 hr hC
    obtain ⟨a1, a2, a3, a4⟩ := H
    rw [hIs (by simp [h2, drw])] at hC
    rw [wp_hd]
    simp at h2
    simp [wp_ne 42, wpE, mk_X9_takeStep, mg, mc_X9_takeStep, lget, lset, popN, cats, rcv, entL, isArr, kC_s, kC_n, st1, st2, st3, st4, st5, st6, st7, st8, st9, st10, st11, st12, st13, st14, st15, st16, st17, st18, st19, st20, st21, st22, st23, st24, st25, st26, st27, st28, st29, st30, st31, st32, st33, st34, st35, st36, st37, st38, st39, st40, st41, st42, st43, st44, st45, st46, st47, st48, st49, st50, st51, st52, st53, st54, st55, st56, st57, st58, st59, st60, st61, st62, st63, st64, st65, st66, st67, st68, st69, st70, st71, st72, st73, st74, st75, st76, st77, st78, st79, st80, st81, st82, st83, st84, st85, st86, st87, st88, st89, st90, st91, a1, h2]
    exact hC
  | cons c w ih =>
    intro h H hl h2 hr hC
    have hh := H
    obtain ⟨a1, a2, a3, a4⟩ := H
    have hc := hr 0 (by simp)
    simp only [Nat.add_zero] at hc
    have hc2 : hvi h (y + 1) (419 - w.length) = c := by simpa [lf] using hc
    have e1 : (420 - (((w.length : Nat) : Int) + 1)).toNat = 419 - w.length := by omega
    simp at h2 hl
    have e2 : (420 - ((w.length : Int) + 1) + 1) = 420 - (w.length : Int) := by omega
    simp only [drw] at hC
    rw [wp_hd]
    (repeat' (first | with_reducible assumption | (refine And.intro ?_ ?_) | (with_reducible intro _) | (simp [wp_ne 42, wpE, mk_X9_takeStep, mg, mc_X9_takeStep, lget, lset, popN, cats, rcv, entL, isArr, kC_s, kC_n, st1, st2, st3, st4, st5, st6, st7, st8, st9, st10, st11, st12, st13, st14, st15, st16, st17, st18, st19, st20, st21, st22, st23, st24, st25, st26, st27, st28, st29, st30, st31, st32, st33, st34, st35, st36, st37, st38, st39, st40, st41, st42, st43, st44, st45, st46, st47, st48, st49, st50, st51, st52, st53, st54, st55, st56, st57, st58, st59, st60, st61, st62, st63, st64, st65, st66, st67, st68, st69, st70, st71, st72, st73, st74, st75, st76, st77, st78, st79, st80, st81, st82, st83, st84, st85, st86, st87, st88, st89, st90, st91, a1, a3, a4, h2, e1, e2, hc2, inR]))) <;> (try omega)
    · rename_i hq
      rw [if_pos hq, hIs (by rw [h2]; simp)] at hC
      exact hC
    · rename_i hq
      rw [if_neg hq] at hC
      refine ih (hsetI h y 2 (420 - (w.length : Int))) hh (by omega) (by simp [hty_I, hvi_I, hvr_I, hvl_I, hsz_I, hty_R, hvi_R, hvr_R, hvl_R, hsz_R, hty_L, hvi_L, hvr_L, hvl_L, hsz_L, hty_P, hvi_P, hvr_P, hvl_P, hsz_P, hty_C, hvi_C, hvr_C, hvl_C, hsz_C]) (fun i hi => ?_) (by rw [hII]; exact hC)
      have := hr (i + 1) (by simp; omega)
      simp [hty_I, hvi_I, hvr_I, hvl_I, hsz_I, hty_R, hvi_R, hvr_R, hvl_R, hsz_R, hty_L, hvi_L, hvr_L, hvl_L, hsz_L, hty_P, hvi_P, hvr_P, hvl_P, hsz_P, hty_C, hvi_C, hvr_C, hvl_C, hsz_C]
      rw [show 420 - w.length + i = 420 - (c :: w).length + (i + 1) by simp; omega, this]
      simp [lf]
/-- where the Way stands -/
def eAt (t : Nat) (h : mH) (T : aT) (d n : Nat) (s : List Int) (e : Nat) : Prop := ∃ a v i, d < 48 ∧ hvr h (t + 1) d = some a ∧ T d = some v ∧ (nE v)[i]? = some (s, n) ∧ hvr h (a + 2) i = some e
def cmO (y t : Nat) (h : mH) (T : aT) (nd : Nat) : aC → Prop
  | none => hvr h y 6 = none
  | some (d, s) => hvi h y 5 = (d : Int) ∧ ∃ e, hvr h y 6 = some e ∧ eAt t h T d nd s e
def WSt (y : Nat) (h : mH) (nd lk : Nat) (w : List Int) : Prop := hvi h y 2 = 420 - (w.length : Int) ∧ hvi h y 3 = (nd : Int) ∧ hvi h y 4 = (lk : Int) ∧ ro h (y + 1) (420 - w.length) w ∧ bd w ∧ w.length + 40 * (8 - lk) ≤ 420 ∧ lk ≤ 8 ∧ nd < 48
def yS (y : Nat) : Nat → Prop := fun a => a = y ∨ a = y + 1
theorem WY_frn {y t : Nat} {h : mH} (H : WY y t h) : ∀ a, yS y a → frn (hty h a) := by
  obtain ⟨a1, a2, a3, a4⟩ := H
  intro a ha
  rcases ha with rfl | rfl
  · rw [a1]; simp [frn]
  · rw [a4]; simp [frn]; omega
theorem eAt_ch {S : Nat → Prop} {h h' : mH} {t d n e : Nat} {T : aT} {s : List Int} {here : Nat} (q : ch S h h') (hS : ∀ a, S a → frn (hty h a)) (H : TR t h T here) (E : eAt t h T d n s e) : eAt t h' T d n s e := by
  obtain ⟨q1, q2, q3, q4⟩ := q
  obtain ⟨a, v, i, e1, e2, e3, e4, e5⟩ := E
  obtain ⟨t1, t2, t3, t4, t5, t6, t7, t8⟩ := H
  have nn : ¬ S (t + 1) := fun s => (hS _ s).2.2.2.1 t3
  obtain ⟨a', b1, b2⟩ := t7 d v e1 e3
  rw [e2] at b1; cases b1
  have ne : ¬ S (a + 2) := fun s => (hS _ s).2.2.2.2.1 _ b2.2.2.2.2.2.2.2.2.2.2.2.2.2.1
  exact ⟨a, v, i, e1, by rw [(q4 _ nn _).1]; exact e2, e3, e4, by rw [(q4 _ ne _).1]; exact e5⟩
theorem c_putInFront {G : Nat → Nat} {d y t a N o : Nat} {h : mH} {C : mQ} {X : mX} {nd lk : Nat} {u w : List Int} {T : aT} {here k : Nat} (hk : k = 21 ∨ k = 51) (HT : TR t h T here) (H : WY y t h) (ht : hty h a = some (k, N)) (hay : ¬ a = y + 1) (hN : o + u.length ≤ N) (hu : ro h a o u) (hu1 : ¬ u = []) (bu : bd u) (h2 : hvi h y 2 = 420 - (w.length : Int)) (h3 : hvi h y 3 = (nd : Int)) (h4 : hvi h y 4 = (lk : Int)) (hr : ro h (y + 1) (420 - w.length) w) (bw : bd w) (hlk : lk ≤ 8) (hl : u.length + w.length + 40 * (8 - lk) ≤ 420) (hnd : nd < 48)
    (hC : ∀ h', ch (yS y) h h' → WY y t h' → WSt y h' (if lf (u ++ w) 0 = 47 then 0 else nd) lk (u ++ w) → hvr h' y 6 = none → C none h') :
    callG (wp G) d 65 0 0 4 [.inr (.inl (some y)), .inr (.inl (some a)), .inl (o : Int), .inl (u.length : Int)] h C X := by
  have hh := H
  obtain ⟨a1, a2, a3, a4⟩ := hh
  have hu0 : 0 < u.length := Nat.pos_of_ne_zero (fun q => hu1 (List.length_eq_zero_iff.mp q))
  have hlf : lf (u ++ w) 0 = lf u 0 := lf_app_l hu0
  have hc0 : hvi h a o = lf u 0 := hu 0 hu0
  have hay2 : ¬ a = y := fun q => by rw [q, a1] at ht; rcases hk with rfl | rfl <;> cases ht
  have e1 : 420 - (w.length : Int) - (u.length : Int) = 420 - ((u ++ w).length : Int) := by simp; omega
  have e2 : (420 - ((u ++ w).length : Int)).toNat = 420 - (u ++ w).length := by omega
  have hlen : (u ++ w).length = u.length + w.length := by simp
  have hz : ∀ (z : Int) (m : Nat), m < 48 → z = (m : Int) → ∀ h', h' = hsetI (hsetR (hcpy (hsetI h y 2 (420 - ((u ++ w).length : Int))) a o (y + 1) (420 - (u ++ w).length) u.length) y 6 none) y 3 z → ch (yS y) h h' ∧ WY y t h' ∧ WSt y h' m lk (u ++ w) ∧ hvr h' y 6 = none := by
    intro z m hm hz h' he
    subst he
    refine ⟨ch_trans (ch_trans (ch_trans (ch_I (Or.inl rfl)) (ch_C (Or.inr rfl))) (ch_R (Or.inl rfl))) (ch_I (Or.inl rfl)), ⟨a1, by simp [hty_I, hvi_I, hvr_I, hvl_I, hsz_I, hty_R, hvi_R, hvr_R, hvl_R, hsz_R, hty_L, hvi_L, hvr_L, hvl_L, hsz_L, hty_P, hvi_P, hvr_P, hvl_P, hsz_P, hty_C, hvi_C, hvr_C, hvl_C, hsz_C, a2], by simp [hty_I, hvi_I, hvr_I, hvl_I, hsz_I, hty_R, hvi_R, hvr_R, hvl_R, hsz_R, hty_L, hvi_L, hvr_L, hvl_L, hsz_L, hty_P, hvi_P, hvr_P, hvl_P, hsz_P, hty_C, hvi_C, hvr_C, hvl_C, hsz_C, a3], a4⟩, ⟨by simp [hty_I, hvi_I, hvr_I, hvl_I, hsz_I, hty_R, hvi_R, hvr_R, hvl_R, hsz_R, hty_L, hvi_L, hvr_L, hvl_L, hsz_L, hty_P, hvi_P, hvr_P, hvl_P, hsz_P, hty_C, hvi_C, hvr_C, hvl_C, hsz_C], by simp [hty_I, hvi_I, hvr_I, hvl_I, hsz_I, hty_R, hvi_R, hvr_R, hvl_R, hsz_R, hty_L, hvi_L, hvr_L, hvl_L, hsz_L, hty_P, hvi_P, hvr_P, hvl_P, hsz_P, hty_C, hvi_C, hvr_C, hvl_C, hsz_C, hz], by simp [hty_I, hvi_I, hvr_I, hvl_I, hsz_I, hty_R, hvi_R, hvr_R, hvl_R, hsz_R, hty_L, hvi_L, hvr_L, hvl_L, hsz_L, hty_P, hvi_P, hvr_P, hvl_P, hsz_P, hty_C, hvi_C, hvr_C, hvl_C, hsz_C, h4], ?_, bd_app bu bw, by omega, hlk, hm⟩, by simp [hty_I, hvi_I, hvr_I, hvl_I, hsz_I, hty_R, hvi_R, hvr_R, hvl_R, hsz_R, hty_L, hvi_L, hvr_L, hvl_L, hsz_L, hty_P, hvi_P, hvr_P, hvl_P, hsz_P, hty_C, hvi_C, hvr_C, hvl_C, hsz_C]⟩
    refine ro_app (fun i hi => ?_) (fun i hi => ?_)
    · simp [hty_I, hvi_I, hvr_I, hvl_I, hsz_I, hty_R, hvi_R, hvr_R, hvl_R, hsz_R, hty_L, hvi_L, hvr_L, hvl_L, hsz_L, hty_P, hvi_P, hvr_P, hvl_P, hsz_P, hty_C, hvi_C, hvr_C, hvl_C, hsz_C, -List.length_append, hay2]
      first
        | exact hu i hi
        | (rw [if_pos hi]; exact hu i hi)
        | (rw [if_pos (by omega), show o + (420 - (u ++ w).length + i - (420 - (u ++ w).length)) = o + i by omega]; exact hu i hi)
        | (intro q; exact hu i hi)
        | (intro q; omega)
    · simp [hty_I, hvi_I, hvr_I, hvl_I, hsz_I, hty_R, hvi_R, hvr_R, hvl_R, hsz_R, hty_L, hvi_L, hvr_L, hvl_L, hsz_L, hty_P, hvi_P, hvr_P, hvl_P, hsz_P, hty_C, hvi_C, hvr_C, hvl_C, hsz_C, -List.length_append]
      rw [if_neg (by omega), show 420 - (u ++ w).length + u.length + i = 420 - w.length + i by omega]
      exact hr i hi
  have hz3 : hvi h y 3 = ((nd : Nat) : Int) := h3
  refine ⟨C, fun _ _ => False, ?_, fun _ _ q => q, fun _ _ q => q.elim⟩
  rcases hk with rfl | rfl
  all_goals
    (repeat' (first | with_reducible assumption | (refine And.intro ?_ ?_) | (with_reducible intro _) | (simp [wp_eq, wpE, mk_X9_putInFront, mg, mc_X9_putInFront, lget, lset, popN, cats, rcv, entL, isArr, kC_s, kC_n, st1, st2, st3, st4, st5, st6, st7, st8, st9, st10, st11, st12, st13, st14, st15, st16, st17, st18, st19, st20, st21, st22, st23, st24, st25, st26, st27, st28, st29, st30, st31, st32, st33, st34, st35, st36, st37, st38, st39, st40, st41, st42, st43, st44, st45, st46, st47, st48, st49, st50, st51, st52, st53, st54, st55, st56, st57, st58, st59, st60, st61, st62, st63, st64, st65, st66, st67, st68, st69, st70, st71, st72, st73, st74, st75, st76, st77, st78, st79, st80, st81, st82, st83, st84, st85, st86, st87, st88, st89, st90, st91, -List.length_append, a1, a2, a3, a4, h2, e1, e2, ht, inR, hty_I, hvi_I, hvr_I, hvl_I, hsz_I, hty_R, hvi_R, hvr_R, hvl_R, hsz_R, hty_L, hvi_L, hvr_L, hvl_L, hsz_L, hty_P, hvi_P, hvr_P, hvl_P, hsz_P, hty_C, hvi_C, hvr_C, hvl_C, hsz_C, hay, hay2, hc0]))) <;> (try omega)
  all_goals rename_i hq
  all_goals first
    | (rw [hlf, if_neg hq] at hC
       have q := hz (nd : Int) nd hnd rfl _ rfl
       rw [hIs (by simp [hty_I, hvi_I, hvr_I, hvl_I, hsz_I, hty_R, hvi_R, hvr_R, hvl_R, hsz_R, hty_L, hvi_L, hvr_L, hvl_L, hsz_L, hty_P, hvi_P, hvr_P, hvl_P, hsz_P, hty_C, hvi_C, hvr_C, hvl_C, hsz_C, h3])] at q
       exact hC _ q.1 q.2.1 q.2.2.1 q.2.2.2)
    | (rw [hlf, if_pos hq] at hC
       have q := hz 0 0 (by omega) rfl _ rfl
       exact hC _ q.1 q.2.1 q.2.2.1 q.2.2.2)
theorem c_follow {G : Nat → Nat} {d y t b : Nat} {h : mH} {C : mQ} {X : mX} {nd lk : Nat} {w : List Int} {T : aT} {here : Nat} {v : aN} (hd : 2 ≤ d) (HT : TR t h T here) (H : WY y t h) (hv : ND h b v) (hx : ¬ nX v = []) (h2 : hvi h y 2 = 420 - (w.length : Int)) (h3 : hvi h y 3 = (nd : Int)) (h4 : hvi h y 4 = (lk : Int)) (hr : ro h (y + 1) (420 - w.length) w) (bw : bd w) (hlk : lk ≤ 8) (hl : w.length + 1 + 40 * (8 - lk) ≤ 420) (hnd : nd < 48)
    (hF : lk = 8 → ∀ h', ch (yS y) h h' → WY y t h' → C (some (.inl (-5))) h')
    (hC : lk < 8 → ∀ h', ch (yS y) h h' → WY y t h' → WSt y h' (if lf (nX v ++ w) 0 = 47 then 0 else nd) (lk + 1) (nX v ++ w) → hvr h' y 6 = none → C (some (.inl 0)) h') :
    callG (wp G) d 68 0 0 3 [.inr (.inl (some y)), .inr (.inl (some b))] h C X := by
  have hh := H
  obtain ⟨a1, a2, a3, a4⟩ := hh
  have hvv := hv
  obtain ⟨v1, v2, v3, v4, v5, v6, v7, v8, v9, v10, v11, v12, v13, v14, v15, v16⟩ := hvv
  have hx1 : 0 < (nX v).length := Nat.pos_of_ne_zero (fun q => hx (List.length_eq_zero_iff.mp q))
  have hyb : ¬ b = y := fun q => by rw [q, a1] at v1; cases v1
  have hyb1 : ¬ b + 1 = y + 1 := by omega
  have hyb2 : ¬ b + 1 = y := fun q => by rw [q, a1] at v11; cases v11
  have hS : ch (yS y) h (hsetI h y 4 ((lk : Int) + 1)) := ch_I (Or.inl rfl)
  have hT' := TR_ch hS (WY_frn H) HT
  refine cg 1 (by omega) (fun d hd => ?_)
  have hd0 : (0 < d) = True := eq_true (by omega)
  by_cases h8 : lk = 8
  · (repeat' (first | with_reducible assumption | (refine And.intro ?_ ?_) | (with_reducible intro _) | (simp [wp_eq, wpE, mk_X9_follow, mg, mc_X9_follow, lget, lset, popN, cats, rcv, entL, isArr, kC_s, kC_n, st1, st2, st3, st4, st5, st6, st7, st8, st9, st10, st11, st12, st13, st14, st15, st16, st17, st18, st19, st20, st21, st22, st23, st24, st25, st26, st27, st28, st29, st30, st31, st32, st33, st34, st35, st36, st37, st38, st39, st40, st41, st42, st43, st44, st45, st46, st47, st48, st49, st50, st51, st52, st53, st54, st55, st56, st57, st58, st59, st60, st61, st62, st63, st64, st65, st66, st67, st68, st69, st70, st71, st72, st73, st74, st75, st76, st77, st78, st79, st80, st81, st82, st83, st84, st85, st86, st87, st88, st89, st90, st91, a1, a3, a4, h2, h4, v1, v5, v11, hd0, inR, hty_I, hvi_I, hvr_I, hvl_I, hsz_I, hty_R, hvi_R, hvr_R, hvl_R, hsz_R, hty_L, hvi_L, hvr_L, hvl_L, hsz_L, hty_P, hvi_P, hvr_P, hvl_P, hsz_P, hty_C, hvi_C, hvr_C, hvl_C, hsz_C, hyb]))) <;> (try omega)
    all_goals (try (exact hF h8 _ hS ⟨a1, a2, a3, a4⟩))
    all_goals (exfalso; omega)
  · (repeat' (first | with_reducible assumption | (refine And.intro ?_ ?_) | (with_reducible intro _) | (simp [wp_eq, wpE, mk_X9_follow, mg, mc_X9_follow, lget, lset, popN, cats, rcv, entL, isArr, kC_s, kC_n, st1, st2, st3, st4, st5, st6, st7, st8, st9, st10, st11, st12, st13, st14, st15, st16, st17, st18, st19, st20, st21, st22, st23, st24, st25, st26, st27, st28, st29, st30, st31, st32, st33, st34, st35, st36, st37, st38, st39, st40, st41, st42, st43, st44, st45, st46, st47, st48, st49, st50, st51, st52, st53, st54, st55, st56, st57, st58, st59, st60, st61, st62, st63, st64, st65, st66, st67, st68, st69, st70, st71, st72, st73, st74, st75, st76, st77, st78, st79, st80, st81, st82, st83, st84, st85, st86, st87, st88, st89, st90, st91, a1, a2, a3, a4, h2, h4, v1, v5, v11, hd0, inR, hty_I, hvi_I, hvr_I, hvl_I, hsz_I, hty_R, hvi_R, hvr_R, hvl_R, hsz_R, hty_L, hvi_L, hvr_L, hvl_L, hsz_L, hty_P, hvi_P, hvr_P, hvl_P, hsz_P, hty_C, hvi_C, hvr_C, hvl_C, hsz_C, hyb]))) <;> (try omega)
    refine c_putInFront (o := 0) (nd := nd) (lk := lk + 1) (u := nX v) (w := w) (Or.inl rfl) hT' ⟨a1, a2, a3, a4⟩ v11 hyb1 (by omega) (fun i hi => by simpa [hty_I, hvi_I, hvr_I, hvl_I, hsz_I, hty_R, hvi_R, hvr_R, hvl_R, hsz_R, hty_L, hvi_L, hvr_L, hvl_L, hsz_L, hty_P, hvi_P, hvr_P, hvl_P, hsz_P, hty_C, hvi_C, hvr_C, hvl_C, hsz_C, hyb2] using v12 i hi) hx v13.1 (by simp [hty_I, hvi_I, hvr_I, hvl_I, hsz_I, hty_R, hvi_R, hvr_R, hvl_R, hsz_R, hty_L, hvi_L, hvr_L, hvl_L, hsz_L, hty_P, hvi_P, hvr_P, hvl_P, hsz_P, hty_C, hvi_C, hvr_C, hvl_C, hsz_C, h2]) (by simp [hty_I, hvi_I, hvr_I, hvl_I, hsz_I, hty_R, hvi_R, hvr_R, hvl_R, hsz_R, hty_L, hvi_L, hvr_L, hvl_L, hsz_L, hty_P, hvi_P, hvr_P, hvl_P, hsz_P, hty_C, hvi_C, hvr_C, hvl_C, hsz_C, h3]) (by simp [hty_I, hvi_I, hvr_I, hvl_I, hsz_I, hty_R, hvi_R, hvr_R, hvl_R, hsz_R, hty_L, hvi_L, hvr_L, hvl_L, hsz_L, hty_P, hvi_P, hvr_P, hvl_P, hsz_P, hty_C, hvi_C, hvr_C, hvl_C, hsz_C]) (fun i hi => by simp [hty_I, hvi_I, hvr_I, hvl_I, hsz_I, hty_R, hvi_R, hvr_R, hvl_R, hsz_R, hty_L, hvi_L, hvr_L, hvl_L, hsz_L, hty_P, hvi_P, hvr_P, hvl_P, hsz_P, hty_C, hvi_C, hvr_C, hvl_C, hsz_C]; exact hr i hi) bw (by omega) (by omega) hnd ?_
    intro h' q1 q2 q3 q4
    have q := hC (by omega) h' (ch_trans hS q1) q2 q3 q4
    (repeat' (first | with_reducible assumption | (refine And.intro ?_ ?_) | (with_reducible intro _) | (simp [wp_eq, wpE, mk_X9_follow, mg, mc_X9_follow, lget, lset, popN, cats, rcv, entL, isArr, kC_s, kC_n, st1, st2, st3, st4, st5, st6, st7, st8, st9, st10, st11, st12, st13, st14, st15, st16, st17, st18, st19, st20, st21, st22, st23, st24, st25, st26, st27, st28, st29, st30, st31, st32, st33, st34, st35, st36, st37, st38, st39, st40, st41, st42, st43, st44, st45, st46, st47, st48, st49, st50, st51, st52, st53, st54, st55, st56, st57, st58, st59, st60, st61, st62, st63, st64, st65, st66, st67, st68, st69, st70, st71, st72, st73, st74, st75, st76, st77, st78, st79, st80, st81, st82, st83, st84, st85, st86, st87, st88, st89, st90, st91]))) <;> (try omega)
theorem lf_one {s : List Int} (h : s.length = 1) : s = [lf s 0] := by
  match s, h with
  | [a], _ => rfl
theorem lf_two {s : List Int} (h : s.length = 2) : s = [lf s 0, lf s 1] := by
  match s, h with
  | [a, b], _ => rfl
theorem c_dotsAlone {G : Nat → Nat} {d y t P : Nat} {h : mH} {C : mQ} {X : mX} {s : List Int} (H : WY y t h) (h2 : hvi h y 2 = ((P + s.length : Nat) : Int)) (hP : P + s.length ≤ 420) (hr : ro h (y + 1) P s) (hC : C (some (.inl (if s = [46] then 1 else if s = [46, 46] then 2 else 0))) h) :
    callG (wp G) d 67 0 0 3 [.inr (.inl (some y)), .inl (P : Int)] h C X := by
  obtain ⟨a1, a2, a3, a4⟩ := H
  refine ⟨C, fun _ _ => False, ?_, fun _ _ q => q, fun _ _ q => q.elim⟩
  by_cases h1 : s.length = 1
  · have c0 := hr 0 (by omega)
    have e1 : ((P + s.length : Nat) : Int) - (P : Int) = 1 := by omega
    have hs := lf_one h1
    generalize lf s 0 = z at *
    subst hs
    simp at hC c0
    by_cases hz : z = 46
    all_goals
      simp [hz] at hC
      generalize hnn : [z].length = nn at *
      clear hnn
      (repeat' (first | with_reducible assumption | (refine And.intro ?_ ?_) | (with_reducible intro _) | (simp [wp_eq, wpE, mk_X9_dotsAlone, mg, mc_X9_dotsAlone, lget, lset, popN, cats, rcv, entL, isArr, kC_s, kC_n, st1, st2, st3, st4, st5, st6, st7, st8, st9, st10, st11, st12, st13, st14, st15, st16, st17, st18, st19, st20, st21, st22, st23, st24, st25, st26, st27, st28, st29, st30, st31, st32, st33, st34, st35, st36, st37, st38, st39, st40, st41, st42, st43, st44, st45, st46, st47, st48, st49, st50, st51, st52, st53, st54, st55, st56, st57, st58, st59, st60, st61, st62, st63, st64, st65, st66, st67, st68, st69, st70, st71, st72, st73, st74, st75, st76, st77, st78, st79, st80, st81, st82, st83, st84, st85, st86, st87, st88, st89, st90, st91, -Int.natCast_add, a1, a3, a4, h2, e1, inR, c0, hz]))) <;> (try omega)
  · by_cases h22 : s.length = 2
    · have c0 := hr 0 (by omega)
      have c1 := hr 1 (by omega)
      have e1 : ((P + s.length : Nat) : Int) - (P : Int) = 2 := by omega
      have hs := lf_two h22
      generalize lf s 0 = z0 at *
      generalize lf s 1 = z1 at *
      subst hs
      simp at hC c0
      have e3 : ((P : Int) + 1).toNat = P + 1 := by omega
      by_cases hz0 : z0 = 46 <;> by_cases hz1 : z1 = 46
      all_goals
        simp [hz0, hz1] at hC
        generalize hnn : [z0, z1].length = nn at *
        clear hnn
        (repeat' (first | with_reducible assumption | (refine And.intro ?_ ?_) | (with_reducible intro _) | (simp [wp_eq, wpE, mk_X9_dotsAlone, mg, mc_X9_dotsAlone, lget, lset, popN, cats, rcv, entL, isArr, kC_s, kC_n, st1, st2, st3, st4, st5, st6, st7, st8, st9, st10, st11, st12, st13, st14, st15, st16, st17, st18, st19, st20, st21, st22, st23, st24, st25, st26, st27, st28, st29, st30, st31, st32, st33, st34, st35, st36, st37, st38, st39, st40, st41, st42, st43, st44, st45, st46, st47, st48, st49, st50, st51, st52, st53, st54, st55, st56, st57, st58, st59, st60, st61, st62, st63, st64, st65, st66, st67, st68, st69, st70, st71, st72, st73, st74, st75, st76, st77, st78, st79, st80, st81, st82, st83, st84, st85, st86, st87, st88, st89, st90, st91, -Int.natCast_add, a1, a3, a4, h2, e1, e3, inR, c0, c1, hz0, hz1]))) <;> (try omega)
    · rw [if_neg (fun q => h1 (by rw [q]; rfl)), if_neg (fun q => h22 (by rw [q]; rfl))] at hC
      have e1 : ((P + s.length : Nat) : Int) - (P : Int) = (s.length : Int) := by omega
      (repeat' (first | with_reducible assumption | (refine And.intro ?_ ?_) | (with_reducible intro _) | (simp [wp_eq, wpE, mk_X9_dotsAlone, mg, mc_X9_dotsAlone, lget, lset, popN, cats, rcv, entL, isArr, kC_s, kC_n, st1, st2, st3, st4, st5, st6, st7, st8, st9, st10, st11, st12, st13, st14, st15, st16, st17, st18, st19, st20, st21, st22, st23, st24, st25, st26, st27, st28, st29, st30, st31, st32, st33, st34, st35, st36, st37, st38, st39, st40, st41, st42, st43, st44, st45, st46, st47, st48, st49, st50, st51, st52, st53, st54, st55, st56, st57, st58, st59, st60, st61, st62, st63, st64, st65, st66, st67, st68, st69, st70, st71, st72, st73, st74, st75, st76, st77, st78, st79, st80, st81, st82, st83, st84, st85, st86, st87, st88, st89, st90, st91, -Int.natCast_add, a1, a3, a4, h2, e1, inR]))) <;> (try omega)
      all_goals (exfalso; omega)
def wfW (T : aT) : Prop := ∀ n v, n < 48 → T n = some v → (∀ p ∈ nE v, ∃ u, T p.2 = some u) ∧ nA v < 48 ∧ (nK v = 2 → ¬ nX v = [])
theorem ixF_some : ∀ (E : List aE) (s : List Int) (k i : Nat), ixF s k E = some i → ∃ n j, i = k + j ∧ E[j]? = some (s, n) ∧ lkE s E = some n := by
  intro E
  induction E with
  | nil => intro s k i h; simp [ixF] at h
  | cons p E ih =>
    intro s k i h
    simp only [ixF, lkE] at *
    split at h
    · rename_i hp; cases h; exact ⟨p.2, 0, rfl, by simp [← hp], by simp [hp]⟩
    · rename_i hp
      obtain ⟨n, j, h1, h2, h3⟩ := ih s (k + 1) i h
      exact ⟨n, j + 1, by omega, by simpa using h2, by rw [if_neg hp]; exact h3⟩
theorem ixF_none : ∀ (E : List aE) (s : List Int) (k : Nat), ixF s k E = none → lkE s E = none := by
  intro E
  induction E with
  | nil => intro s k h; rfl
  | cons p E ih =>
    intro s k h
    simp only [ixF, lkE] at *
    split at h
    · cases h
    · rename_i hp; rw [if_neg hp]; exact ih s (k + 1) h
theorem ixF_lt {E : List aE} {s : List Int} {i : Nat} (h : ixF s 0 E = some i) : i < E.length := by
  obtain ⟨n, j, h1, h2, h3⟩ := ixF_some E s 0 i h
  have := (List.getElem?_eq_some_iff.mp h2).1
  omega
theorem cmO_n {y t : Nat} {h : mH} {T : aT} {nd : Nat} (q : hvr h y 6 = none) : cmO y t h T nd none := q
theorem c_takeStep {G : Nat → Nat} {d y t : Nat} {h : mH} {C : mQ} {X : mX} {nd lk : Nat} {w : List Int} {T : aT} {here : Nat} {fol : Bool} (hd : 4 ≤ d) (HT : TR t h T here) (hW : wfW T) (H : WY y t h) (hw : ¬ w = []) (HS : WSt y h nd lk w) (hw47 : ¬ lf w 0 = 47)
    (hF : ∀ z, stp T fol nd lk w = .inl z → ∀ h', ch (yS y) h h' → WY y t h' → C (some (.inl z)) h')
    (hC : ∀ q, stp T fol nd lk w = .inr q → ∀ h', ch (yS y) h h' → WY y t h' → WSt y h' q.1 q.2.1 q.2.2.2 → cmO y t h' T q.1 q.2.2.1 → C (some (.inl 0)) h') :
    callG (wp G) d 66 0 0 7 [.inr (.inl (some y)), .inl (b01 fol)] h C X := by
  have hh := H
  obtain ⟨a1, a2, a3, a4⟩ := hh
  obtain ⟨s2, s3, s4, s5, s6, s7, s8, s9⟩ := HS
  have htd := tkw_drw w
  generalize hs : tkw w = s at *
  generalize hrr : drw w = r at *
  have hlen : w.length = s.length + r.length := by rw [← htd]; simp
  have hs1 : 0 < s.length := by
    rw [← hs]
    cases w with
    | nil => exact absurd rfl hw
    | cons c u => simp [lf] at hw47; simp [tkw, hw47]
  obtain ⟨P, hP⟩ : ∃ P, P + w.length = 420 := ⟨420 - w.length, by omega⟩
  have eP : 420 - (w.length : Int) = (P : Int) := by omega
  have eQ : 420 - (r.length : Int) = ((P + s.length : Nat) : Int) := by omega
  have eP2 : 420 - w.length = P := by omega
  have eQ2 : 420 - r.length = P + s.length := by omega
  rw [eP2] at s5
  have s5s : ro h (y + 1) P s := ro_l (w := r) (by rw [htd]; exact s5)
  have s5r : ro h (y + 1) (P + s.length) r := ro_r (u := s) (by rw [htd]; exact s5)
  have bs : bd s := bd_l (b := r) (by rw [htd]; exact s6)
  have br : bd r := bd_r (a := s) (by rw [htd]; exact s6)
  generalize hh1 : hsetI h y 2 ((P + s.length : Nat) : Int) = h1
  have hS : ch (yS y) h h1 := by rw [← hh1]; exact ch_I (Or.inl rfl)
  have H1 : WY y t h1 := by rw [← hh1]; exact ⟨a1, a2, a3, a4⟩
  have HT1 := TR_ch hS (WY_frn H) HT
  have k2 : hvi h1 y 2 = ((P + s.length : Nat) : Int) := by rw [← hh1]; simp [hty_I, hvi_I, hvr_I, hvl_I, hsz_I, hty_R, hvi_R, hvr_R, hvl_R, hsz_R, hty_L, hvi_L, hvr_L, hvl_L, hsz_L, hty_P, hvi_P, hvr_P, hvl_P, hsz_P, hty_C, hvi_C, hvr_C, hvl_C, hsz_C]
  have k3 : hvi h1 y 3 = (nd : Int) := by rw [← hh1]; simp [hty_I, hvi_I, hvr_I, hvl_I, hsz_I, hty_R, hvi_R, hvr_R, hvl_R, hsz_R, hty_L, hvi_L, hvr_L, hvl_L, hsz_L, hty_P, hvi_P, hvr_P, hvl_P, hsz_P, hty_C, hvi_C, hvr_C, hvl_C, hsz_C, s3]
  have k4 : hvi h1 y 4 = (lk : Int) := by rw [← hh1]; simp [hty_I, hvi_I, hvr_I, hvl_I, hsz_I, hty_R, hvi_R, hvr_R, hvl_R, hsz_R, hty_L, hvi_L, hvr_L, hvl_L, hsz_L, hty_P, hvi_P, hvr_P, hvl_P, hsz_P, hty_C, hvi_C, hvr_C, hvl_C, hsz_C, s4]
  have k5 : ∀ o u, ro h (y + 1) o u → ro h1 (y + 1) o u := by intro o u q i hi; rw [← hh1]; simp [hty_I, hvi_I, hvr_I, hvl_I, hsz_I, hty_R, hvi_R, hvr_R, hvl_R, hsz_R, hty_L, hvi_L, hvr_L, hvl_L, hsz_L, hty_P, hvi_P, hvr_P, hvl_P, hsz_P, hty_C, hvi_C, hvr_C, hvl_C, hsz_C]; exact q i hi
  obtain ⟨c1, c2, c3, c4⟩ := H1
  have HTT := HT1
  obtain ⟨t1, t2, t3, t4, t5, t6, t7, t8⟩ := HTT
  refine cg 3 (by omega) (fun d hd => ?_)
  have hd0 : (0 < d) = True := eq_true (by omega)
  simp [wp_eq, wpE, mk_X9_takeStep, mg, mc_X9_takeStep, lget, lset, popN, cats, rcv, entL, isArr, kC_s, kC_n, st1, st2, st3, st4, st5, st6, st7, st8, st9, st10, st11, st12, st13, st14, st15, st16, st17, st18, st19, st20, st21, st22, st23, st24, st25, st26, st27, st28, st29, st30, st31, st32, st33, st34, st35, st36, st37, st38, st39, st40, st41, st42, st43, st44, st45, st46, st47, st48, st49, st50, st51, st52, st53, st54, st55, st56, st57, st58, st59, st60, st61, st62, st63, st64, st65, st66, st67, st68, st69, st70, st71, st72, st73, st74, st75, st76, st77, st78, st79, st80, st81, st82, st83, st84, st85, st86, st87, st88, st89, st90, st91, a1, s2, eP]
  refine drw_loop w h H (by omega) (by rw [s2]) (by rw [eP2]; exact s5) ?_
  rw [hrr, eQ, hh1]
  cases hT : T nd with
  | none =>
    have q := t6 nd s9 hT
    have hz := hF (-3) (by simp [stp, tK, hT]) h1 hS ⟨c1, c2, c3, c4⟩
    (repeat' (first | with_reducible assumption | (refine c_atN s9 HT1 ?_) | (refine And.intro ?_ ?_) | (with_reducible intro _) | (simp [wp_eq, wpE, mk_X9_takeStep, mg, mc_X9_takeStep, lget, lset, popN, cats, rcv, entL, isArr, kC_s, kC_n, st1, st2, st3, st4, st5, st6, st7, st8, st9, st10, st11, st12, st13, st14, st15, st16, st17, st18, st19, st20, st21, st22, st23, st24, st25, st26, st27, st28, st29, st30, st31, st32, st33, st34, st35, st36, st37, st38, st39, st40, st41, st42, st43, st44, st45, st46, st47, st48, st49, st50, st51, st52, st53, st54, st55, st56, st57, st58, st59, st60, st61, st62, st63, st64, st65, st66, st67, st68, st69, st70, st71, st72, st73, st74, st75, st76, st77, st78, st79, st80, st81, st82, st83, st84, st85, st86, st87, st88, st89, st90, st91, c1, c2, k3, t1, hd0, q]))) <;> (try omega)
  | some v =>
    obtain ⟨a, q1, q2⟩ := t7 nd v s9 hT
    have hK : tK T nd = nK v := by simp [tK, hT]
    have hB : tB T nd = nB v := by simp [tB, hT]
    have hE : tE T nd = nE v := by simp [tE, hT]
    have hA : tA T nd = nA v := by simp [tA, hT]
    have hwv := hW nd v s9 hT
    have qv := q2
    obtain ⟨v1, v2, v3, v4, v5, v6, v7, v8, v9, v10, v11, v12, v13, v14, v15, v16⟩ := qv
    by_cases hk0 : nK v = 0
    · by_cases hb0 : bAnd (nB v) 1 = 0
      · have hz := hF (-4) (by simp [stp, hK, hB, hk0, hb0]) h1 hS ⟨c1, c2, c3, c4⟩
        (repeat' (first | with_reducible assumption | (refine c_atN s9 HT1 ?_) | (refine And.intro ?_ ?_) | (with_reducible intro _) | (simp [wp_eq, wpE, mk_X9_takeStep, mg, mc_X9_takeStep, lget, lset, popN, cats, rcv, entL, isArr, kC_s, kC_n, st1, st2, st3, st4, st5, st6, st7, st8, st9, st10, st11, st12, st13, st14, st15, st16, st17, st18, st19, st20, st21, st22, st23, st24, st25, st26, st27, st28, st29, st30, st31, st32, st33, st34, st35, st36, st37, st38, st39, st40, st41, st42, st43, st44, st45, st46, st47, st48, st49, st50, st51, st52, st53, st54, st55, st56, st57, st58, st59, st60, st61, st62, st63, st64, st65, st66, st67, st68, st69, st70, st71, st72, st73, st74, st75, st76, st77, st78, st79, st80, st81, st82, st83, st84, st85, st86, st87, st88, st89, st90, st91, c1, c2, k3, t1, hd0, q1, v1, v2, v8, hk0, hb0]))) <;> (try omega)
      · skip
        have kr5 := k5 _ _ s5s
        have hb40 : r.length + 40 * (8 - lk) ≤ 420 := by omega
        have ktk : tK T nd = 0 := by rw [hK]; exact hk0
        have ktb : ¬ bAnd (tB T nd) 1 = 0 := by rw [hB]; exact hb0
        by_cases hd1 : s = [46]
        · have hdt : (if s = [46] then (1 : Int) else if s = [46, 46] then 2 else 0) = 1 := if_pos hd1
          have hz := hC (nd, lk, none, r) (by simp [stp, ktk, ktb, hs, hd1, hrr]) (hsetI (hsetR h1 y 6 none) y 3 (nd : Int)) (ch_trans (ch_trans hS (ch_R (Or.inl rfl))) (ch_I (Or.inl rfl))) ⟨c1, by simp [hty_I, hvi_I, hvr_I, hvl_I, hsz_I, hty_R, hvi_R, hvr_R, hvl_R, hsz_R, hty_L, hvi_L, hvr_L, hvl_L, hsz_L, hty_P, hvi_P, hvr_P, hvl_P, hsz_P, hty_C, hvi_C, hvr_C, hvl_C, hsz_C, c2], by simp [hty_I, hvi_I, hvr_I, hvl_I, hsz_I, hty_R, hvi_R, hvr_R, hvl_R, hsz_R, hty_L, hvi_L, hvr_L, hvl_L, hsz_L, hty_P, hvi_P, hvr_P, hvl_P, hsz_P, hty_C, hvi_C, hvr_C, hvl_C, hsz_C, c3], c4⟩ ⟨by simp [hty_I, hvi_I, hvr_I, hvl_I, hsz_I, hty_R, hvi_R, hvr_R, hvl_R, hsz_R, hty_L, hvi_L, hvr_L, hvl_L, hsz_L, hty_P, hvi_P, hvr_P, hvl_P, hsz_P, hty_C, hvi_C, hvr_C, hvl_C, hsz_C, k2, eQ], by simp [hty_I, hvi_I, hvr_I, hvl_I, hsz_I, hty_R, hvi_R, hvr_R, hvl_R, hsz_R, hty_L, hvi_L, hvr_L, hvl_L, hsz_L, hty_P, hvi_P, hvr_P, hvl_P, hsz_P, hty_C, hvi_C, hvr_C, hvl_C, hsz_C], by simp [hty_I, hvi_I, hvr_I, hvl_I, hsz_I, hty_R, hvi_R, hvr_R, hvl_R, hsz_R, hty_L, hvi_L, hvr_L, hvl_L, hsz_L, hty_P, hvi_P, hvr_P, hvl_P, hsz_P, hty_C, hvi_C, hvr_C, hvl_C, hsz_C, k4], fun i hi => by rw [eQ2]; simp [hty_I, hvi_I, hvr_I, hvl_I, hsz_I, hty_R, hvi_R, hvr_R, hvl_R, hsz_R, hty_L, hvi_L, hvr_L, hvl_L, hsz_L, hty_P, hvi_P, hvr_P, hvl_P, hsz_P, hty_C, hvi_C, hvr_C, hvl_C, hsz_C]; exact k5 _ _ s5r i hi, br, hb40, s8, s9⟩ (by simp [cmO, hty_I, hvi_I, hvr_I, hvl_I, hsz_I, hty_R, hvi_R, hvr_R, hvl_R, hsz_R, hty_L, hvi_L, hvr_L, hvl_L, hsz_L, hty_P, hvi_P, hvr_P, hvl_P, hsz_P, hty_C, hvi_C, hvr_C, hvl_C, hsz_C])
          (repeat' (first | with_reducible assumption | (refine c_atN s9 HT1 ?_) | (refine c_dotsAlone ⟨c1, c2, c3, c4⟩ k2 (by omega) kr5 ?_) | (refine And.intro ?_ ?_) | (with_reducible intro _) | (simp [wp_eq, wpE, mk_X9_takeStep, mg, mc_X9_takeStep, lget, lset, popN, cats, rcv, entL, isArr, kC_s, kC_n, st1, st2, st3, st4, st5, st6, st7, st8, st9, st10, st11, st12, st13, st14, st15, st16, st17, st18, st19, st20, st21, st22, st23, st24, st25, st26, st27, st28, st29, st30, st31, st32, st33, st34, st35, st36, st37, st38, st39, st40, st41, st42, st43, st44, st45, st46, st47, st48, st49, st50, st51, st52, st53, st54, st55, st56, st57, st58, st59, st60, st61, st62, st63, st64, st65, st66, st67, st68, st69, st70, st71, st72, st73, st74, st75, st76, st77, st78, st79, st80, st81, st82, st83, st84, st85, st86, st87, st88, st89, st90, st91, -Int.natCast_add, c1, c2, k3, t1, hd0, q1, v1, v2, v8, hk0, hb0, hdt, hty_I, hvi_I, hvr_I, hvl_I, hsz_I, hty_R, hvi_R, hvr_R, hvl_R, hsz_R, hty_L, hvi_L, hvr_L, hvl_L, hsz_L, hty_P, hvi_P, hvr_P, hvl_P, hsz_P, hty_C, hvi_C, hvr_C, hvl_C, hsz_C]))) <;> (try omega)
        · by_cases hd2 : s = [46, 46]
          · have hdt : (if s = [46] then (1 : Int) else if s = [46, 46] then 2 else 0) = 2 := by rw [if_neg hd1, if_pos hd2]
            have hz := hC (nA v, lk, none, r) (by simp [stp, ktk, ktb, hs, hd2, hrr, hA]) (hsetI (hsetR h1 y 6 none) y 3 (nA v : Int)) (ch_trans (ch_trans hS (ch_R (Or.inl rfl))) (ch_I (Or.inl rfl))) ⟨c1, by simp [hty_I, hvi_I, hvr_I, hvl_I, hsz_I, hty_R, hvi_R, hvr_R, hvl_R, hsz_R, hty_L, hvi_L, hvr_L, hvl_L, hsz_L, hty_P, hvi_P, hvr_P, hvl_P, hsz_P, hty_C, hvi_C, hvr_C, hvl_C, hsz_C, c2], by simp [hty_I, hvi_I, hvr_I, hvl_I, hsz_I, hty_R, hvi_R, hvr_R, hvl_R, hsz_R, hty_L, hvi_L, hvr_L, hvl_L, hsz_L, hty_P, hvi_P, hvr_P, hvl_P, hsz_P, hty_C, hvi_C, hvr_C, hvl_C, hsz_C, c3], c4⟩ ⟨by simp [hty_I, hvi_I, hvr_I, hvl_I, hsz_I, hty_R, hvi_R, hvr_R, hvl_R, hsz_R, hty_L, hvi_L, hvr_L, hvl_L, hsz_L, hty_P, hvi_P, hvr_P, hvl_P, hsz_P, hty_C, hvi_C, hvr_C, hvl_C, hsz_C, k2, eQ], by simp [hty_I, hvi_I, hvr_I, hvl_I, hsz_I, hty_R, hvi_R, hvr_R, hvl_R, hsz_R, hty_L, hvi_L, hvr_L, hvl_L, hsz_L, hty_P, hvi_P, hvr_P, hvl_P, hsz_P, hty_C, hvi_C, hvr_C, hvl_C, hsz_C], by simp [hty_I, hvi_I, hvr_I, hvl_I, hsz_I, hty_R, hvi_R, hvr_R, hvl_R, hsz_R, hty_L, hvi_L, hvr_L, hvl_L, hsz_L, hty_P, hvi_P, hvr_P, hvl_P, hsz_P, hty_C, hvi_C, hvr_C, hvl_C, hsz_C, k4], fun i hi => by rw [eQ2]; simp [hty_I, hvi_I, hvr_I, hvl_I, hsz_I, hty_R, hvi_R, hvr_R, hvl_R, hsz_R, hty_L, hvi_L, hvr_L, hvl_L, hsz_L, hty_P, hvi_P, hvr_P, hvl_P, hsz_P, hty_C, hvi_C, hvr_C, hvl_C, hsz_C]; exact k5 _ _ s5r i hi, br, hb40, s8, hwv.2.1⟩ (by simp [cmO, hty_I, hvi_I, hvr_I, hvl_I, hsz_I, hty_R, hvi_R, hvr_R, hvl_R, hsz_R, hty_L, hvi_L, hvr_L, hvl_L, hsz_L, hty_P, hvi_P, hvr_P, hvl_P, hsz_P, hty_C, hvi_C, hvr_C, hvl_C, hsz_C])
            (repeat' (first | with_reducible assumption | (refine c_atN s9 HT1 ?_) | (refine c_dotsAlone ⟨c1, c2, c3, c4⟩ k2 (by omega) kr5 ?_) | (refine And.intro ?_ ?_) | (with_reducible intro _) | (simp [wp_eq, wpE, mk_X9_takeStep, mg, mc_X9_takeStep, lget, lset, popN, cats, rcv, entL, isArr, kC_s, kC_n, st1, st2, st3, st4, st5, st6, st7, st8, st9, st10, st11, st12, st13, st14, st15, st16, st17, st18, st19, st20, st21, st22, st23, st24, st25, st26, st27, st28, st29, st30, st31, st32, st33, st34, st35, st36, st37, st38, st39, st40, st41, st42, st43, st44, st45, st46, st47, st48, st49, st50, st51, st52, st53, st54, st55, st56, st57, st58, st59, st60, st61, st62, st63, st64, st65, st66, st67, st68, st69, st70, st71, st72, st73, st74, st75, st76, st77, st78, st79, st80, st81, st82, st83, st84, st85, st86, st87, st88, st89, st90, st91, -Int.natCast_add, c1, c2, k3, t1, hd0, q1, v1, v2, v8, v10, hk0, hb0, hdt, hty_I, hvi_I, hvr_I, hvl_I, hsz_I, hty_R, hvi_R, hvr_R, hvl_R, hsz_R, hty_L, hvi_L, hvr_L, hvl_L, hsz_L, hty_P, hvi_P, hvr_P, hvl_P, hsz_P, hty_C, hvi_C, hvr_C, hvl_C, hsz_C]))) <;> (try omega)
          · have hdt : (if s = [46] then (1 : Int) else if s = [46, 46] then 2 else 0) = 0 := by rw [if_neg hd1, if_neg hd2]
            cases hix : ixF s 0 (nE v) with
            | none =>
              have hbn : (ixF s 0 (nE v)).bind (hvr h1 (a + 2)) = none := by rw [hix]; rfl
              have hz := hF (-2) (by simp [stp, ktk, ktb, hs, hd1, hd2, hE, ixF_none _ _ _ hix]) h1 hS ⟨c1, c2, c3, c4⟩
              (repeat' (first | with_reducible assumption | (refine c_atN s9 HT1 ?_) | (refine c_dotsAlone ⟨c1, c2, c3, c4⟩ k2 (by omega) kr5 ?_) | (refine c_entry (by omega) q2 bs c4 (by omega) (by omega) kr5 ?_) | (refine And.intro ?_ ?_) | (with_reducible intro _) | (simp [wp_eq, wpE, mk_X9_takeStep, mg, mc_X9_takeStep, lget, lset, popN, cats, rcv, entL, isArr, kC_s, kC_n, st1, st2, st3, st4, st5, st6, st7, st8, st9, st10, st11, st12, st13, st14, st15, st16, st17, st18, st19, st20, st21, st22, st23, st24, st25, st26, st27, st28, st29, st30, st31, st32, st33, st34, st35, st36, st37, st38, st39, st40, st41, st42, st43, st44, st45, st46, st47, st48, st49, st50, st51, st52, st53, st54, st55, st56, st57, st58, st59, st60, st61, st62, st63, st64, st65, st66, st67, st68, st69, st70, st71, st72, st73, st74, st75, st76, st77, st78, st79, st80, st81, st82, st83, st84, st85, st86, st87, st88, st89, st90, st91, -Int.natCast_add, c1, c2, c3, k2, k3, t1, hd0, q1, v1, v2, v8, hk0, hb0, hdt, hbn]))) <;> (try omega)
            | some i =>
              obtain ⟨n, j, g1, g2, g3⟩ := ixF_some _ _ _ _ hix
              rw [Nat.zero_add] at g1
              subst g1
              obtain ⟨e, g4, g5⟩ := v16 i _ g2
              have g55 := g5
              obtain ⟨f1, f2, f3, f4, f5, -⟩ := g55
              have hbn : (ixF s 0 (nE v)).bind (hvr h1 (a + 2)) = some e := by rw [hix]; exact g4
              obtain ⟨u, gu⟩ := hwv.1 _ (List.mem_of_getElem? g2)
              have gu : T n = some u := gu
              have f4 : n < 48 := f4
              have f5 : hvi h1 e 1 = (n : Int) := f5
              obtain ⟨b, m1, m2⟩ := t7 n u f4 gu
              have m22 := m2
              obtain ⟨u1, u2, -⟩ := m22
              have hKn : tK T n = nK u := by simp [tK, gu]
              have hXn : tX T n = nX u := by simp [tX, gu]
              have hey : ¬ e = y := fun q => by rw [q, c1] at f1; cases f1
              have hay2 : ¬ a + 2 = y := fun q => by rw [q, c1] at v14; cases v14
              have hty2 : ¬ t + 1 = y := fun q => by rw [q, c1] at t3; cases t3
              by_cases hfl : nK u = 2 ∧ (fol = true ∨ ¬ r = [])
              · have hx := (hW n u f4 gu).2.2 hfl.1
                have hF' := fun (q : lk = 8) => hF (-5) (by simp only [stp, ktk, ktb, hs, hd1, hd2, hE, g3, hrr, hKn, hfl, if_false, if_true, not_true, not_false_eq_true]; simp [q, hfl])
                have hC' := fun (q : lk < 8) => hC (if lf (nX u ++ r) 0 = 47 then 0 else nd, lk + 1, none, nX u ++ r) (by simp only [stp, ktk, ktb, hs, hd1, hd2, hE, g3, hrr, hKn, hXn, hfl, if_false, if_true, not_true, not_false_eq_true]; simp [show ¬ 8 ≤ lk by omega, hfl])
                have hkr := hfl.1
                have hpos : (fol = true ∨ ¬ (420 ≤ ((P + s.length : Nat) : Int))) := hfl.2.imp id (fun q w => q (List.length_eq_zero_iff.mp (by omega)))
                cases fol
                all_goals
                  (repeat' (first | with_reducible assumption | (refine c_atN s9 HT1 ?_) | (refine c_atN f4 HT1 ?_) | (refine c_dotsAlone ⟨c1, c2, c3, c4⟩ k2 (by omega) kr5 ?_) | (refine c_entry (by omega) q2 bs c4 (by omega) (by omega) kr5 ?_) | (refine c_follow (nd := nd) (lk := lk) (w := r) (by omega) HT1 ⟨c1, c2, c3, c4⟩ m2 hx (by rw [k2, eQ]) k3 k4 (by rw [eQ2]; exact k5 _ _ s5r) br s8 (by omega) s9 ?_ ?_) | (refine And.intro ?_ ?_) | (with_reducible intro _) | (simp [wp_eq, wpE, mk_X9_takeStep, mg, mc_X9_takeStep, lget, lset, popN, cats, rcv, entL, isArr, kC_s, kC_n, st1, st2, st3, st4, st5, st6, st7, st8, st9, st10, st11, st12, st13, st14, st15, st16, st17, st18, st19, st20, st21, st22, st23, st24, st25, st26, st27, st28, st29, st30, st31, st32, st33, st34, st35, st36, st37, st38, st39, st40, st41, st42, st43, st44, st45, st46, st47, st48, st49, st50, st51, st52, st53, st54, st55, st56, st57, st58, st59, st60, st61, st62, st63, st64, st65, st66, st67, st68, st69, st70, st71, st72, st73, st74, st75, st76, st77, st78, st79, st80, st81, st82, st83, st84, st85, st86, st87, st88, st89, st90, st91, -Int.natCast_add, c1, c2, c3, k2, k3, t1, hd0, q1, v1, v2, v8, hk0, hb0, hdt, hbn, f1, f5, m1, u1, u2, hkr, b01]))) <;> (try omega)
                  all_goals first
                    | (rename_i z1 h' z2 z3 z4 z5; exact hC' z1 h' (ch_trans hS z2) z3 z4 z5)
                    | (rename_i z1 h' z2 z3; exact hF' z1 h' (ch_trans hS z2) z3)
                    | (exfalso; simp at hpos; omega)
              · have hz := hC (n, lk, some (nd, s), r) (by simp only [stp, ktk, ktb, hs, hd1, hd2, hE, g3, hrr, hKn, hfl, if_false, if_true, not_true, not_false_eq_true]) (hsetI (hsetI (hsetR h1 y 6 (some e)) y 5 (nd : Int)) y 3 (n : Int)) (ch_trans (ch_trans (ch_trans hS (ch_R (Or.inl rfl))) (ch_I (Or.inl rfl))) (ch_I (Or.inl rfl))) ⟨c1, by simp [hty_I, hvi_I, hvr_I, hvl_I, hsz_I, hty_R, hvi_R, hvr_R, hvl_R, hsz_R, hty_L, hvi_L, hvr_L, hvl_L, hsz_L, hty_P, hvi_P, hvr_P, hvl_P, hsz_P, hty_C, hvi_C, hvr_C, hvl_C, hsz_C, c2], by simp [hty_I, hvi_I, hvr_I, hvl_I, hsz_I, hty_R, hvi_R, hvr_R, hvl_R, hsz_R, hty_L, hvi_L, hvr_L, hvl_L, hsz_L, hty_P, hvi_P, hvr_P, hvl_P, hsz_P, hty_C, hvi_C, hvr_C, hvl_C, hsz_C, c3], c4⟩ ⟨by simp [hty_I, hvi_I, hvr_I, hvl_I, hsz_I, hty_R, hvi_R, hvr_R, hvl_R, hsz_R, hty_L, hvi_L, hvr_L, hvl_L, hsz_L, hty_P, hvi_P, hvr_P, hvl_P, hsz_P, hty_C, hvi_C, hvr_C, hvl_C, hsz_C, k2, eQ], by simp [hty_I, hvi_I, hvr_I, hvl_I, hsz_I, hty_R, hvi_R, hvr_R, hvl_R, hsz_R, hty_L, hvi_L, hvr_L, hvl_L, hsz_L, hty_P, hvi_P, hvr_P, hvl_P, hsz_P, hty_C, hvi_C, hvr_C, hvl_C, hsz_C], by simp [hty_I, hvi_I, hvr_I, hvl_I, hsz_I, hty_R, hvi_R, hvr_R, hvl_R, hsz_R, hty_L, hvi_L, hvr_L, hvl_L, hsz_L, hty_P, hvi_P, hvr_P, hvl_P, hsz_P, hty_C, hvi_C, hvr_C, hvl_C, hsz_C, k4], fun i hi => by rw [eQ2]; simp [hty_I, hvi_I, hvr_I, hvl_I, hsz_I, hty_R, hvi_R, hvr_R, hvl_R, hsz_R, hty_L, hvi_L, hvr_L, hvl_L, hsz_L, hty_P, hvi_P, hvr_P, hvl_P, hsz_P, hty_C, hvi_C, hvr_C, hvl_C, hsz_C]; exact k5 _ _ s5r i hi, br, hb40, s8, f4⟩ ⟨by simp [hty_I, hvi_I, hvr_I, hvl_I, hsz_I, hty_R, hvi_R, hvr_R, hvl_R, hsz_R, hty_L, hvi_L, hvr_L, hvl_L, hsz_L, hty_P, hvi_P, hvr_P, hvl_P, hsz_P, hty_C, hvi_C, hvr_C, hvl_C, hsz_C], e, by simp [hty_I, hvi_I, hvr_I, hvl_I, hsz_I, hty_R, hvi_R, hvr_R, hvl_R, hsz_R, hty_L, hvi_L, hvr_L, hvl_L, hsz_L, hty_P, hvi_P, hvr_P, hvl_P, hsz_P, hty_C, hvi_C, hvr_C, hvl_C, hsz_C], a, v, i, s9, by simp [hty_I, hvi_I, hvr_I, hvl_I, hsz_I, hty_R, hvi_R, hvr_R, hvl_R, hsz_R, hty_L, hvi_L, hvr_L, hvl_L, hsz_L, hty_P, hvi_P, hvr_P, hvl_P, hsz_P, hty_C, hvi_C, hvr_C, hvl_C, hsz_C, hty2, q1], hT, g2, by simp [hty_I, hvi_I, hvr_I, hvl_I, hsz_I, hty_R, hvi_R, hvr_R, hvl_R, hsz_R, hty_L, hvi_L, hvr_L, hvl_L, hsz_L, hty_P, hvi_P, hvr_P, hvl_P, hsz_P, hty_C, hvi_C, hvr_C, hvl_C, hsz_C, hay2, g4]⟩
                have hpos : ¬ (nK u = 2 ∧ (fol = true ∨ ¬ (420 ≤ ((P + s.length : Nat) : Int)))) := fun q => hfl ⟨q.1, q.2.imp id (fun z w => z (by rw [w] at hlen; simp at hlen; omega))⟩
                cases fol
                all_goals
                  (repeat' (first | with_reducible assumption | (refine c_atN s9 HT1 ?_) | (refine c_atN f4 HT1 ?_) | (refine c_dotsAlone ⟨c1, c2, c3, c4⟩ k2 (by omega) kr5 ?_) | (refine c_entry (by omega) q2 bs c4 (by omega) (by omega) kr5 ?_) | (refine And.intro ?_ ?_) | (with_reducible intro _) | (simp [wp_eq, wpE, mk_X9_takeStep, mg, mc_X9_takeStep, lget, lset, popN, cats, rcv, entL, isArr, kC_s, kC_n, st1, st2, st3, st4, st5, st6, st7, st8, st9, st10, st11, st12, st13, st14, st15, st16, st17, st18, st19, st20, st21, st22, st23, st24, st25, st26, st27, st28, st29, st30, st31, st32, st33, st34, st35, st36, st37, st38, st39, st40, st41, st42, st43, st44, st45, st46, st47, st48, st49, st50, st51, st52, st53, st54, st55, st56, st57, st58, st59, st60, st61, st62, st63, st64, st65, st66, st67, st68, st69, st70, st71, st72, st73, st74, st75, st76, st77, st78, st79, st80, st81, st82, st83, st84, st85, st86, st87, st88, st89, st90, st91, -Int.natCast_add, c1, c2, c3, k2, k3, t1, hd0, q1, v1, v2, v8, hk0, hb0, hdt, hbn, f1, f5, m1, u1, u2, hty_I, hvi_I, hvr_I, hvl_I, hsz_I, hty_R, hvi_R, hvr_R, hvl_R, hsz_R, hty_L, hvi_L, hvr_L, hvl_L, hsz_L, hty_P, hvi_P, hvr_P, hvl_P, hsz_P, hty_C, hvi_C, hvr_C, hvl_C, hsz_C, hey, b01]))) <;> (try omega)
                  all_goals (exfalso; simp at hpos; omega)
    · have hz := hF (-3) (by simp [stp, hK, hk0]) h1 hS ⟨c1, c2, c3, c4⟩
      (repeat' (first | with_reducible assumption | (refine c_atN s9 HT1 ?_) | (refine And.intro ?_ ?_) | (with_reducible intro _) | (simp [wp_eq, wpE, mk_X9_takeStep, mg, mc_X9_takeStep, lget, lset, popN, cats, rcv, entL, isArr, kC_s, kC_n, st1, st2, st3, st4, st5, st6, st7, st8, st9, st10, st11, st12, st13, st14, st15, st16, st17, st18, st19, st20, st21, st22, st23, st24, st25, st26, st27, st28, st29, st30, st31, st32, st33, st34, st35, st36, st37, st38, st39, st40, st41, st42, st43, st44, st45, st46, st47, st48, st49, st50, st51, st52, st53, st54, st55, st56, st57, st58, st59, st60, st61, st62, st63, st64, st65, st66, st67, st68, st69, st70, st71, st72, st73, st74, st75, st76, st77, st78, st79, st80, st81, st82, st83, st84, st85, st86, st87, st88, st89, st90, st91, c1, c2, k3, t1, hd0, q1, v1, v2, hk0]))) <;> (try omega)

theorem stp_neg {T : aT} {fol : Bool} {nd lk : Nat} {w : List Int} {z : Int} (h : stp T fol nd lk w = .inl z) : z < 0 := by
  unfold stp at h
  split at h
  · cases h; decide
  split at h
  · cases h; decide
  split at h
  · cases h
  split at h
  · cases h
  split at h
  · cases h; decide
  · split at h
    · split at h
      · cases h; decide
      · cases h
    · cases h
/-- the whole way -/
def wkR (T : aT) (fol : Bool) (here : Nat) (u : List Int) : Int × aC := wk T fol 421 (if lf u 0 = 47 then 0 else here) 0 none u
theorem along_loop {G : Nat → Nat} {d y t : Nat} {C : mQ} {X : mX} {T : aT} {here : Nat} {fol : Bool} {x1 x2 x3 x5 : Option mV} (hd : 5 ≤ d) (hW : wfW T) : ∀ (f : Nat) (h : mH) (nd lk : Nat) (cm : aC) (w : List Int) (x7 x8 : Option mV), f ≤ 421 → TR t h T here → WY y t h → WSt y h nd lk w → cmO y t h T nd cm →
    (∀ h', ch (yS y) h h' → WY y t h' → (∀ (n : Nat) c, wk T fol f nd lk cm w = ((n : Int), c) → n < 48 ∧ cmO y t h' T n c) → C (some (.inl (wk T fol f nd lk cm w).1)) h') →
    wp G d 64 100066 [some (.inr (.inl (some y))), x1, x2, x3, some (.inl (b01 fol)), x5, some (.inl ((421 - f : Nat) : Int)), x7, x8] [] h 0 0 C X := by
  intro f
  induction f with
  | zero =>
    intro h nd lk cm w x7 x8 hf HT H HS hcm hC
    have hz := hC h ch_refl H (fun n c q => by simp [wk] at q)
    simp only [wk] at hz
    rw [wp_hd]
    (repeat' (first | with_reducible assumption | (refine And.intro ?_ ?_) | (with_reducible intro _) | (simp [wp_eq, wpE, mk_X9_along, mg, mc_X9_along, lget, lset, popN, cats, rcv, entL, isArr, kC_s, kC_n, st1, st2, st3, st4, st5, st6, st7, st8, st9, st10, st11, st12, st13, st14, st15, st16, st17, st18, st19, st20, st21, st22, st23, st24, st25, st26, st27, st28, st29, st30, st31, st32, st33, st34, st35, st36, st37, st38, st39, st40, st41, st42, st43, st44, st45, st46, st47, st48, st49, st50, st51, st52, st53, st54, st55, st56, st57, st58, st59, st60, st61, st62, st63, st64, st65, st66, st67, st68, st69, st70, st71, st72, st73, st74, st75, st76, st77, st78, st79, st80, st81, st82, st83, st84, st85, st86, st87, st88, st89, st90, st91]))) <;> (try omega)
  | succ f ih =>
    intro h nd lk cm w x7 x8 hf HT H HS hcm hC
    have hh := H
    obtain ⟨a1, a2, a3, a4⟩ := hh
    have hSS := HS
    obtain ⟨s2, s3, s4, s5, s6, s7, s8, s9⟩ := hSS
    have e1 : ¬ (420 < ((421 - (f + 1) : Nat) : Int)) := by omega
    have e2 : ((421 - (f + 1) : Nat) : Int) + 1 = ((421 - f : Nat) : Int) := by omega
    have hd0 : (0 < d) = True := eq_true (by omega)
    generalize ht : 421 - (f + 1) = tn at *
    rw [wp_hd]
    simp [wp_eq, wpE, mk_X9_along, mg, mc_X9_along, lget, lset, popN, cats, rcv, entL, isArr, kC_s, kC_n, st1, st2, st3, st4, st5, st6, st7, st8, st9, st10, st11, st12, st13, st14, st15, st16, st17, st18, st19, st20, st21, st22, st23, st24, st25, st26, st27, st28, st29, st30, st31, st32, st33, st34, st35, st36, st37, st38, st39, st40, st41, st42, st43, st44, st45, st46, st47, st48, st49, st50, st51, st52, st53, st54, st55, st56, st57, st58, st59, st60, st61, st62, st63, st64, st65, st66, st67, st68, st69, st70, st71, st72, st73, st74, st75, st76, st77, st78, st79, st80, st81, st82, st83, st84, st85, st86, st87, st88, st89, st90, st91, a1, s2, show ¬ (420 < (tn : Int)) by omega, show (tn : Int) ≤ 420 by omega]
    refine dsl_loop w h H (by omega) s2 s5 ?_
    simp only [wk] at hC
    have hS : ch (yS y) h (hsetI h y 2 (420 - ((dsl w).length : Int))) := ch_I (Or.inl rfl)
    have HT1 := TR_ch hS (WY_frn H) HT
    have H1 : WY y t (hsetI h y 2 (420 - ((dsl w).length : Int))) := ⟨a1, a2, a3, a4⟩
    obtain ⟨t1, t2, t3, t4, t5, t6, t7, t8⟩ := HT1
    have hl1 := dsl_len w
    generalize hh1 : hsetI h y 2 (420 - ((dsl w).length : Int)) = h1 at *
    have k2 : hvi h1 y 2 = 420 - ((dsl w).length : Int) := by rw [← hh1]; simp [hty_I, hvi_I, hvr_I, hvl_I, hsz_I, hty_R, hvi_R, hvr_R, hvl_R, hsz_R, hty_L, hvi_L, hvr_L, hvl_L, hsz_L, hty_P, hvi_P, hvr_P, hvl_P, hsz_P, hty_C, hvi_C, hvr_C, hvl_C, hsz_C]
    have k3 : hvi h1 y 3 = (nd : Int) := by rw [← hh1]; simp [hty_I, hvi_I, hvr_I, hvl_I, hsz_I, hty_R, hvi_R, hvr_R, hvl_R, hsz_R, hty_L, hvi_L, hvr_L, hvl_L, hsz_L, hty_P, hvi_P, hvr_P, hvl_P, hsz_P, hty_C, hvi_C, hvr_C, hvl_C, hsz_C, s3]
    have k4 : hvi h1 y 4 = (lk : Int) := by rw [← hh1]; simp [hty_I, hvi_I, hvr_I, hvl_I, hsz_I, hty_R, hvi_R, hvr_R, hvl_R, hsz_R, hty_L, hvi_L, hvr_L, hvl_L, hsz_L, hty_P, hvi_P, hvr_P, hvl_P, hsz_P, hty_C, hvi_C, hvr_C, hvl_C, hsz_C, s4]
    have k6 : cmO y t h1 T nd cm := by
      cases cm with
      | none => rw [← hh1]; exact hcm
      | some c => rw [← hh1]; exact ⟨by simp [hty_I, hvi_I, hvr_I, hvl_I, hsz_I, hty_R, hvi_R, hvr_R, hvl_R, hsz_R, hty_L, hvi_L, hvr_L, hvl_L, hsz_L, hty_P, hvi_P, hvr_P, hvl_P, hsz_P, hty_C, hvi_C, hvr_C, hvl_C, hsz_C]; exact hcm.1, hcm.2⟩
    obtain ⟨c1, c2, c3, c4⟩ := H1
    by_cases hw : dsl w = []
    · rw [if_pos hw] at hC
      rw [hw] at k2
      simp at k2
      by_cases hw1 : w = []
      · rw [if_neg (by simp [hw1])] at hC
        have hz := hC h1 hS ⟨c1, c2, c3, c4⟩ (fun n c q => by cases q; exact ⟨s9, k6⟩)
        simp [hw1]
        (repeat' (first | with_reducible assumption | (refine And.intro ?_ ?_) | (with_reducible intro _) | (simp [wp_eq, wpE, mk_X9_along, mg, mc_X9_along, lget, lset, popN, cats, rcv, entL, isArr, kC_s, kC_n, st1, st2, st3, st4, st5, st6, st7, st8, st9, st10, st11, st12, st13, st14, st15, st16, st17, st18, st19, st20, st21, st22, st23, st24, st25, st26, st27, st28, st29, st30, st31, st32, st33, st34, st35, st36, st37, st38, st39, st40, st41, st42, st43, st44, st45, st46, st47, st48, st49, st50, st51, st52, st53, st54, st55, st56, st57, st58, st59, st60, st61, st62, st63, st64, st65, st66, st67, st68, st69, st70, st71, st72, st73, st74, st75, st76, st77, st78, st79, st80, st81, st82, st83, st84, st85, st86, st87, st88, st89, st90, st91, c1, k2, k3]))) <;> (try omega)
      · have hwl : 0 < w.length := Nat.pos_of_ne_zero (fun q => hw1 (List.length_eq_zero_iff.mp q))
        have hlt : 420 - (w.length : Int) < 420 := by omega
        by_cases hk : tK T nd = 0
        · rw [if_neg (by simp [hk])] at hC
          have hz := hC h1 hS ⟨c1, c2, c3, c4⟩ (fun n c q => by cases q; exact ⟨s9, k6⟩)
          (repeat' (first | with_reducible assumption | (refine c_isDirectory (by omega) s9 ⟨t1, t2, t3, t4, t5, t6, t7, t8⟩ ?_) | (refine And.intro ?_ ?_) | (with_reducible intro _) | (simp [wp_eq, wpE, mk_X9_along, mg, mc_X9_along, lget, lset, popN, cats, rcv, entL, isArr, kC_s, kC_n, st1, st2, st3, st4, st5, st6, st7, st8, st9, st10, st11, st12, st13, st14, st15, st16, st17, st18, st19, st20, st21, st22, st23, st24, st25, st26, st27, st28, st29, st30, st31, st32, st33, st34, st35, st36, st37, st38, st39, st40, st41, st42, st43, st44, st45, st46, st47, st48, st49, st50, st51, st52, st53, st54, st55, st56, st57, st58, st59, st60, st61, st62, st63, st64, st65, st66, st67, st68, st69, st70, st71, st72, st73, st74, st75, st76, st77, st78, st79, st80, st81, st82, st83, st84, st85, st86, st87, st88, st89, st90, st91, c1, c2, k2, k3, t1, hd0, hlt, hwl, hk, b01]))) <;> (try omega)
        · rw [if_pos ⟨hw1, hk⟩] at hC
          have hz := hC h1 hS ⟨c1, c2, c3, c4⟩ (fun n c q => by cases q)
          (repeat' (first | with_reducible assumption | (refine c_isDirectory (by omega) s9 ⟨t1, t2, t3, t4, t5, t6, t7, t8⟩ ?_) | (refine And.intro ?_ ?_) | (with_reducible intro _) | (simp [wp_eq, wpE, mk_X9_along, mg, mc_X9_along, lget, lset, popN, cats, rcv, entL, isArr, kC_s, kC_n, st1, st2, st3, st4, st5, st6, st7, st8, st9, st10, st11, st12, st13, st14, st15, st16, st17, st18, st19, st20, st21, st22, st23, st24, st25, st26, st27, st28, st29, st30, st31, st32, st33, st34, st35, st36, st37, st38, st39, st40, st41, st42, st43, st44, st45, st46, st47, st48, st49, st50, st51, st52, st53, st54, st55, st56, st57, st58, st59, st60, st61, st62, st63, st64, st65, st66, st67, st68, st69, st70, st71, st72, st73, st74, st75, st76, st77, st78, st79, st80, st81, st82, st83, st84, st85, st86, st87, st88, st89, st90, st91, c1, c2, k2, k3, t1, hd0, hlt, hwl, hk, b01]))) <;> (try omega)
    · rw [if_neg hw] at hC
      have hdl : 0 < (dsl w).length := Nat.pos_of_ne_zero (fun q => hw (List.length_eq_zero_iff.mp q))
      have hc47 : ¬ lf (dsl w) 0 = 47 := by
        cases hq : dsl w with
        | nil => exact absurd hq hw
        | cons c u => simpa [lf] using dsl_head w c u hq
      have HS1 : WSt y h1 nd lk (dsl w) := by
        refine ⟨k2, k3, k4, ?_, bd_dsl s6, by omega, s8, s9⟩
        obtain ⟨u, hu⟩ := dsl_suf w
        have hlen : w.length = u.length + (dsl w).length := by rw [← List.length_append, ← hu]
        rw [hu] at s5
        have := ro_r s5
        intro i hi
        rw [← hh1]; simp only [hvi_I]
        rw [if_neg (by omega)]
        have q := this i hi
        rw [← hu] at q
        rw [show 420 - (dsl w).length + i = 420 - w.length + u.length + i by omega]; exact q
      (repeat' (first | with_reducible assumption | (refine c_takeStep (nd := nd) (lk := lk) (w := dsl w) (by omega) ⟨t1, t2, t3, t4, t5, t6, t7, t8⟩ hW ⟨c1, c2, c3, c4⟩ hw HS1 hc47 ?_ ?_) | (refine And.intro ?_ ?_) | (with_reducible intro _) | (simp [wp_eq, wpE, mk_X9_along, mg, mc_X9_along, lget, lset, popN, cats, rcv, entL, isArr, kC_s, kC_n, st1, st2, st3, st4, st5, st6, st7, st8, st9, st10, st11, st12, st13, st14, st15, st16, st17, st18, st19, st20, st21, st22, st23, st24, st25, st26, st27, st28, st29, st30, st31, st32, st33, st34, st35, st36, st37, st38, st39, st40, st41, st42, st43, st44, st45, st46, st47, st48, st49, st50, st51, st52, st53, st54, st55, st56, st57, st58, st59, st60, st61, st62, st63, st64, st65, st66, st67, st68, st69, st70, st71, st72, st73, st74, st75, st76, st77, st78, st79, st80, st81, st82, st83, st84, st85, st86, st87, st88, st89, st90, st91, c1, c2, k2, k3, t1, hd0, hdl]))) <;> (try omega)
      all_goals first
        | (rename_i q hq h' p1 p2 p3 p4
           rw [hq] at hC
           rw [e2]
           exact ih h' q.1 q.2.1 q.2.2.1 q.2.2.2 _ _ (by omega) (TR_ch p1 (WY_frn ⟨c1, c2, c3, c4⟩) ⟨t1, t2, t3, t4, t5, t6, t7, t8⟩) p2 p3 p4 (fun h'' r1 r2 r3 => hC h'' (ch_trans hS (ch_trans p1 r1)) r2 r3))
        | (rename_i z hq h' p1 p2 hne
           rw [hq] at hC
           have := stp_neg hq
           exact hC h' (ch_trans hS p1) p2 (fun n c q => by cases q; omega))
        | (rename_i z hq h' p1 p2 hne
           have := stp_neg hq
           exfalso; omega)
theorem c_along {G : Nat → Nat} {d y t a N o k : Nat} {h : mH} {C : mQ} {X : mX} {T : aT} {here : Nat} {fol : Bool} {u : List Int} (hd : 6 ≤ d) (hk : k = 21 ∨ k = 51) (HT : TR t h T here) (hh : here < 48) (hW : wfW T) (H : WY y t h) (ht : hty h a = some (k, N)) (hay : ¬ a = y + 1) (hN : o + u.length ≤ N) (hu : ro h a o u) (hu1 : ¬ u = []) (bu : bd u) (hul : u.length ≤ 100)
    (hC : ∀ h', ch (yS y) h h' → WY y t h' → (∀ (n : Nat) c, wkR T fol here u = ((n : Int), c) → n < 48 ∧ cmO y t h' T n c) → C (some (.inl (wkR T fol here u).1)) h') :
    callG (wp G) d 64 0 0 9 [.inr (.inl (some y)), .inr (.inl (some a)), .inl (o : Int), .inl ((o + u.length : Nat) : Int), .inl (b01 fol)] h C X := by
  have hH := H
  obtain ⟨a1, a2, a3, a4⟩ := hH
  have hT := HT
  obtain ⟨t1, t2, t3, t4, t5, t6, t7, t8⟩ := hT
  have hul1 : 0 < u.length := Nat.pos_of_ne_zero (fun q => hu1 (List.length_eq_zero_iff.mp q))
  have e1 : ((o + u.length : Nat) : Int) - (o : Int) = (u.length : Int) := by omega
  have hS : ch (yS y) h (hsetI (hsetI (hsetI h y 2 420) y 4 0) y 3 (here : Int)) := ch_trans (ch_trans (ch_I (Or.inl rfl)) (ch_I (Or.inl rfl))) (ch_I (Or.inl rfl))
  have HT1 := TR_ch hS (WY_frn H) HT
  have hay2 : ¬ a = y := fun q => by rw [q, a1] at ht; rcases hk with rfl | rfl <;> cases ht
  have hty : ¬ t = y := fun q => by rw [q, a1] at t1; cases t1
  have hg : ∀ h1, ch (yS y) (hsetI (hsetI (hsetI h y 2 420) y 4 0) y 3 (here : Int)) h1 → WY y t h1 → WSt y h1 (if lf (u ++ []) 0 = 47 then 0 else here) 0 (u ++ []) → hvr h1 y 6 = none → ∀ d, 5 ≤ d → wp G d 64 100066 [some (.inr (.inl (some y))), some (.inr (.inl (some a))), some (.inl (o : Int)), some (.inl ((o + u.length : Nat) : Int)), some (.inl (b01 fol)), some (.inl (u.length : Int)), some (.inl 0), none, none] [] h1 0 0 C (fun _ _ => False) := by
    intro h1 p1 p2 p3 p4 d hd
    rw [List.append_nil] at p3
    exact along_loop (here := here) hd hW 421 h1 _ 0 none u none none (by omega) (TR_ch (ch_trans hS p1) (WY_frn H) HT) p2 p3 p4 (fun h' r1 r2 r3 => hC h' (ch_trans hS (ch_trans p1 r1)) r2 r3)
  refine cg 5 (by omega) (fun d hd => ?_)
  have hd0 : (0 < d) = True := eq_true (by omega)
  rcases hk with rfl | rfl
  all_goals
    (repeat' (first | with_reducible assumption | (refine c_putInFront (nd := here) (lk := 0) (u := u) (w := []) (by simp) HT1 ⟨a1, a2, a3, a4⟩ ht hay hN (fun i hi => by simp [hty_I, hvi_I, hvr_I, hvl_I, hsz_I, hty_R, hvi_R, hvr_R, hvl_R, hsz_R, hty_L, hvi_L, hvr_L, hvl_L, hsz_L, hty_P, hvi_P, hvr_P, hvl_P, hsz_P, hty_C, hvi_C, hvr_C, hvl_C, hsz_C, hay2]; exact hu i hi) hu1 bu (by simp [hty_I, hvi_I, hvr_I, hvl_I, hsz_I, hty_R, hvi_R, hvr_R, hvl_R, hsz_R, hty_L, hvi_L, hvr_L, hvl_L, hsz_L, hty_P, hvi_P, hvr_P, hvl_P, hsz_P, hty_C, hvi_C, hvr_C, hvl_C, hsz_C]) (by simp [hty_I, hvi_I, hvr_I, hvl_I, hsz_I, hty_R, hvi_R, hvr_R, hvl_R, hsz_R, hty_L, hvi_L, hvr_L, hvl_L, hsz_L, hty_P, hvi_P, hvr_P, hvl_P, hsz_P, hty_C, hvi_C, hvr_C, hvl_C, hsz_C]) (by simp [hty_I, hvi_I, hvr_I, hvl_I, hsz_I, hty_R, hvi_R, hvr_R, hvl_R, hsz_R, hty_L, hvi_L, hvr_L, hvl_L, hsz_L, hty_P, hvi_P, hvr_P, hvl_P, hsz_P, hty_C, hvi_C, hvr_C, hvl_C, hsz_C]) (fun i hi => by simp at hi) (fun c hc => by simp at hc) (by omega) (by simp; omega) hh ?_) | (refine And.intro ?_ ?_) | (with_reducible intro _) | (simp [wp_eq, wpE, mk_X9_along, mg, mc_X9_along, lget, lset, popN, cats, rcv, entL, isArr, kC_s, kC_n, st1, st2, st3, st4, st5, st6, st7, st8, st9, st10, st11, st12, st13, st14, st15, st16, st17, st18, st19, st20, st21, st22, st23, st24, st25, st26, st27, st28, st29, st30, st31, st32, st33, st34, st35, st36, st37, st38, st39, st40, st41, st42, st43, st44, st45, st46, st47, st48, st49, st50, st51, st52, st53, st54, st55, st56, st57, st58, st59, st60, st61, st62, st63, st64, st65, st66, st67, st68, st69, st70, st71, st72, st73, st74, st75, st76, st77, st78, st79, st80, st81, st82, st83, st84, st85, st86, st87, st88, st89, st90, st91, -Int.natCast_add, a1, a2, e1, ht, t1, t5, hd0, inR, hty_I, hvi_I, hvr_I, hvl_I, hsz_I, hty_R, hvi_R, hvr_R, hvl_R, hsz_R, hty_L, hvi_L, hvr_L, hvl_L, hsz_L, hty_P, hvi_P, hvr_P, hvl_P, hsz_P, hty_C, hvi_C, hvr_C, hvl_C, hsz_C, hty]))) <;> (try omega)
    all_goals
      rename_i p1 p2 p3 p4
      exact hg _ p1 p2 p3 p4 _ hd
