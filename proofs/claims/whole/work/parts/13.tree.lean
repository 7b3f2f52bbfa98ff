/-! NODES and ENTRIES of the class -/
def bd (w : List Int) : Prop := ∀ c ∈ w, 0 ≤ c ∧ c < 256
def ro (h : mH) (a o : Nat) (w : List Int) : Prop := ∀ i, i < w.length → hvi h a (o + i) = lf w i
def sgn (c : Int) : Bool := (decide (97 ≤ c) && decide (c ≤ 122)) || (decide (48 ≤ c) && decide (c ≤ 57)) || (c == 46) || (c == 95) || (c == 45)
def isNm (w : List Int) : Bool := decide (1 ≤ w.length) && decide (w.length ≤ 14) && w.all sgn && !(w.all (fun c => c == 46) && decide (w.length ≤ 2))
def cmpv : List Int → List Int → Int
  | [], b => -(b.length : Int)
  | x :: a, [] => (a.length : Int) + 1
  | x :: a, y :: b => if x = y then cmpv a b else x - y
theorem cmpv_0 : ∀ a b, cmpv a b = 0 ↔ a = b := by
  intro a
  induction a with
  | nil => intro b; cases b <;> simp [cmpv] <;> omega
  | cons x a ih =>
    intro b
    cases b with
    | nil => simp [cmpv]; omega
    | cons y b =>
      simp only [cmpv]
      split
      · rename_i h; rw [ih b, h]; simp
      · rename_i h; simp [h]; omega
theorem sgn_iff {c : Int} : sgn c = true ↔ ((97 ≤ c ∧ c ≤ 122) ∨ (48 ≤ c ∧ c ≤ 57) ∨ c = 46 ∨ c = 95 ∨ c = 45) := by simp [sgn, or_assoc]
theorem sgn_no {c : Int} (h : ¬ ((97 ≤ c ∧ c ≤ 122) ∨ (48 ≤ c ∧ c ≤ 57) ∨ c = 46 ∨ c = 95 ∨ c = 45)) : sgn c = false := by
  cases q : sgn c with
  | false => rfl
  | true => exact absurd (sgn_iff.mp q) h
theorem isName_loop {G : Nat → Nat} {d a N s : Nat} {h : mH} {C : mQ} {X : mX} {w : List Int} {n : Int} (ht : hty h a = some (21, N)) (hN : s + w.length ≤ N) (hN2 : N ≤ 60000) (hr : ro h a s w) (hC : ∀ z : Int, z = 0 ∨ z = 1 → z = b01 (w.all sgn && !(w.all (fun c => c == 46) && decide (n ≤ 2))) → C (some (.inl z)) h) :
    ∀ (m i : Nat) (b : Bool) (x6 x7 : Option mV), m + i = w.length → (w.all sgn && !(w.all (fun c => c == 46) && decide (n ≤ 2))) = ((w.drop i).all sgn && !((b && (w.drop i).all (fun c => c == 46)) && decide (n ≤ 2))) →
    wp G d 1 100033 [some (.inr (.inl (some a))), some (.inl (s : Int)), some (.inl ((s + w.length : Nat) : Int)), some (.inl n), some (.inl (b01 b)), some (.inl ((s + i : Nat) : Int)), x6, x7] [] h 0 0 C X := by
  intro m
  induction m with
  | zero =>
    intro i b x6 x7 hm hw
    have he : w.drop i = [] := List.drop_of_length_le (by omega)
    rw [he] at hw
    rw [hw] at hC
    rw [wp_hd]
    cases b <;> simp [wp_eq, wpE, mk_X0_isName, mg, mc_X0_isName, lget, lset, popN, cats, rcv, entL, isArr, kC_s, kC_n, st1, st2, st3, st4, st5, st6, st7, st8, st9, st10, st11, st12, st13, st14, st15, st16, st17, st18, st19, st20, st21, st22, st23, st24, st25, st26, st27, st28, st29, st30, st31, st32, st33, st34, st35, st36, st37, st38, st39, st40, st41, st42, st43, st44, st45, st46, st47, st48, st49, st50, st51, st52, st53, st54, st55, st56, st57, st58, st59, st60, st61, st62, st63, st64, st65, st66, st67, st68, st69, st70, st71, st72, st73, st74, st75, st76, st77, st78, st79, st80, st81, st82, st83, st84, st85, st86, st87, st88, st89, st90, st91, -Int.natCast_add, show i = w.length by omega, b01]
    · exact hC 1 (by simp) (by simp [b01])
    · refine ⟨fun q => hC 0 (by simp) ?_, fun q => hC 1 (by simp) ?_⟩
      · simp [b01]; omega
      · simp [b01]; omega
  | succ m ih =>
    intro i b x6 x7 hm hw
    have hc := hr i (by omega)
    rw [drop_lf (by omega)] at hw
    have e1 : ((s + i : Nat) : Int) + 1 = ((s + (i + 1) : Nat) : Int) := by omega
    have e2 : ((s + i : Nat) : Int).toNat = s + i := by omega
    rw [wp_hd]
    cases b
    · (repeat' (first | with_reducible assumption | (refine And.intro ?_ ?_) | (with_reducible intro _) | (simp [wp_eq, wpE, mk_X0_isName, mg, mc_X0_isName, lget, lset, popN, cats, rcv, entL, isArr, kC_s, kC_n, st1, st2, st3, st4, st5, st6, st7, st8, st9, st10, st11, st12, st13, st14, st15, st16, st17, st18, st19, st20, st21, st22, st23, st24, st25, st26, st27, st28, st29, st30, st31, st32, st33, st34, st35, st36, st37, st38, st39, st40, st41, st42, st43, st44, st45, st46, st47, st48, st49, st50, st51, st52, st53, st54, st55, st56, st57, st58, st59, st60, st61, st62, st63, st64, st65, st66, st67, st68, st69, st70, st71, st72, st73, st74, st75, st76, st77, st78, st79, st80, st81, st82, st83, st84, st85, st86, st87, st88, st89, st90, st91, -Int.natCast_add, ht, e1, e2, hc, inR, b01]))) <;> (try omega)
      all_goals first
        | exact ih (i + 1) false _ _ (by omega) (by rw [hw]; have q : sgn (lf w i) = true := sgn_iff.mpr (by omega); simp [q])
        | (refine hC 0 (Or.inl rfl) ?_; rw [hw]; have q : sgn (lf w i) = false := sgn_no (by omega); simp [q, b01])
    · (repeat' (first | with_reducible assumption | (refine And.intro ?_ ?_) | (with_reducible intro _) | (simp [wp_eq, wpE, mk_X0_isName, mg, mc_X0_isName, lget, lset, popN, cats, rcv, entL, isArr, kC_s, kC_n, st1, st2, st3, st4, st5, st6, st7, st8, st9, st10, st11, st12, st13, st14, st15, st16, st17, st18, st19, st20, st21, st22, st23, st24, st25, st26, st27, st28, st29, st30, st31, st32, st33, st34, st35, st36, st37, st38, st39, st40, st41, st42, st43, st44, st45, st46, st47, st48, st49, st50, st51, st52, st53, st54, st55, st56, st57, st58, st59, st60, st61, st62, st63, st64, st65, st66, st67, st68, st69, st70, st71, st72, st73, st74, st75, st76, st77, st78, st79, st80, st81, st82, st83, st84, st85, st86, st87, st88, st89, st90, st91, -Int.natCast_add, ht, e1, e2, hc, inR, b01]))) <;> (try omega)
      all_goals first
        | exact ih (i + 1) false _ _ (by omega) (by rw [hw]; have q : sgn (lf w i) = true := sgn_iff.mpr (by omega); have q2 : ¬ lf w i = 46 := (by omega); simp [q, q2])
        | exact ih (i + 1) true _ _ (by omega) (by rw [hw]; have q : sgn (lf w i) = true := sgn_iff.mpr (by omega); have q2 : lf w i = 46 := (by omega); simp [q2, sgn])
        | (refine hC 0 (Or.inl rfl) ?_; rw [hw]; have q : sgn (lf w i) = false := sgn_no (by omega); simp [q, b01])
theorem c_isName {G : Nat → Nat} {d a N s : Nat} {h : mH} {C : mQ} {X : mX} {w : List Int} (ht : hty h a = some (21, N)) (hN : s + w.length ≤ N) (hN2 : N ≤ 60000) (hr : ro h a s w) (hC : C (some (.inl (b01 (isNm w)))) h) :
    callG (wp G) d 1 0 0 8 [.inr (.inl (some a)), .inl (s : Int), .inl ((s + w.length : Nat) : Int)] h C X := by
  have e1 : ((s + w.length : Nat) : Int) - (s : Int) = (w.length : Int) := by omega
  have hl := isName_loop (G := G) (d := d - 1) (C := C) (X := fun _ _ => False) (n := (w.length : Int)) ht hN hN2 hr
  refine ⟨C, fun _ _ => False, ?_, fun _ _ q => q, fun _ _ q => q.elim⟩
  by_cases h14 : 1 ≤ w.length ∧ w.length ≤ 14
  · have hi : isNm w = (w.all sgn && !(w.all (fun c => c == 46) && decide ((w.length : Int) ≤ 2))) := by
      have : decide ((w.length : Int) ≤ 2) = decide (w.length ≤ 2) := decide_eq_decide.mpr (by omega)
      rw [this]; simp [isNm, h14.1, h14.2]
    rw [hi] at hC
    (repeat' (first | with_reducible assumption | (refine And.intro ?_ ?_) | (with_reducible intro _) | (simp [wp_eq, wpE, mk_X0_isName, mg, mc_X0_isName, lget, lset, popN, cats, rcv, entL, isArr, kC_s, kC_n, st1, st2, st3, st4, st5, st6, st7, st8, st9, st10, st11, st12, st13, st14, st15, st16, st17, st18, st19, st20, st21, st22, st23, st24, st25, st26, st27, st28, st29, st30, st31, st32, st33, st34, st35, st36, st37, st38, st39, st40, st41, st42, st43, st44, st45, st46, st47, st48, st49, st50, st51, st52, st53, st54, st55, st56, st57, st58, st59, st60, st61, st62, st63, st64, st65, st66, st67, st68, st69, st70, st71, st72, st73, st74, st75, st76, st77, st78, st79, st80, st81, st82, st83, st84, st85, st86, st87, st88, st89, st90, st91, -Int.natCast_add, ht, e1, inR]))) <;> (try omega)
    exact hl (fun z _ hz => by rw [hz]; exact hC) w.length 0 true none none (by omega) (by simp)
  · have hi : isNm w = false := by
      by_cases h1 : 1 ≤ w.length
      · have : ¬ w.length ≤ 14 := fun q => h14 ⟨h1, q⟩
        simp [isNm, this]
      · simp [isNm, h1]
    rw [hi] at hC
    (repeat' (first | with_reducible assumption | (refine And.intro ?_ ?_) | (with_reducible intro _) | (simp [wp_eq, wpE, mk_X0_isName, mg, mc_X0_isName, lget, lset, popN, cats, rcv, entL, isArr, kC_s, kC_n, st1, st2, st3, st4, st5, st6, st7, st8, st9, st10, st11, st12, st13, st14, st15, st16, st17, st18, st19, st20, st21, st22, st23, st24, st25, st26, st27, st28, st29, st30, st31, st32, st33, st34, st35, st36, st37, st38, st39, st40, st41, st42, st43, st44, st45, st46, st47, st48, st49, st50, st51, st52, st53, st54, st55, st56, st57, st58, st59, st60, st61, st62, st63, st64, st65, st66, st67, st68, st69, st70, st71, st72, st73, st74, st75, st76, st77, st78, st79, st80, st81, st82, st83, st84, st85, st86, st87, st88, st89, st90, st91, -Int.natCast_add, ht, e1, inR]))) <;> (try omega)
    all_goals (first | exact hC | (exfalso; omega))
/-- an entry -/
abbrev aE : Type := List Int × Nat
def EN (h : mH) (e : Nat) (p : aE) : Prop := hty h e = some (0, 2) ∧ bd p.1 ∧ p.1.length ≤ 14 ∧ p.2 < 48 ∧ hvi h e 1 = (p.2 : Int) ∧ ∃ b, hvr h e 0 = some b ∧ hty h b = some (21, p.1.length) ∧ ro h b 0 p.1
theorem orderTo_loop {G : Nat → Nat} {d a b e N s : Nat} {h : mH} {C : mQ} {X : mX} {u w : List Int} (he : hty h e = some (0, 2)) (hb : hvr h e 0 = some b) (htb : hty h b = some (21, u.length)) (hu : ro h b 0 u) (bu : bd u) (bw : bd w) (hul : u.length ≤ 60000) (ht : hty h a = some (21, N)) (hN : s + w.length ≤ N) (hN2 : N ≤ 60000) (hr : ro h a s w) :
    ∀ (m i : Nat), m + i = u.length → C (some (.inl (cmpv (u.drop i) (w.drop i)))) h → i ≤ w.length →
    wp G d 2 100015 [some (.inr (.inl (some e))), some (.inr (.inl (some a))), some (.inl (s : Int)), some (.inl ((s + w.length : Nat) : Int)), some (.inl (i : Int))] [] h 0 0 C X := by
  have e1 : ((s + w.length : Nat) : Int) - (s : Int) = (w.length : Int) := by omega
  intro m
  induction m with
  | zero =>
    intro i hm hC hi
    have hd : u.drop i = [] := List.drop_of_length_le (by omega)
    rw [hd] at hC
    have ec : cmpv [] (w.drop i) = (u.length : Int) - (w.length : Int) := by simp [cmpv]; omega
    rw [ec] at hC
    rw [wp_hd]
    (repeat' (first | with_reducible assumption | (refine And.intro ?_ ?_) | (with_reducible intro _) | (simp [wp_eq, wpE, mk_X0_orderTo, mg, mc_X0_orderTo, lget, lset, popN, cats, rcv, entL, isArr, kC_s, kC_n, st1, st2, st3, st4, st5, st6, st7, st8, st9, st10, st11, st12, st13, st14, st15, st16, st17, st18, st19, st20, st21, st22, st23, st24, st25, st26, st27, st28, st29, st30, st31, st32, st33, st34, st35, st36, st37, st38, st39, st40, st41, st42, st43, st44, st45, st46, st47, st48, st49, st50, st51, st52, st53, st54, st55, st56, st57, st58, st59, st60, st61, st62, st63, st64, st65, st66, st67, st68, st69, st70, st71, st72, st73, st74, st75, st76, st77, st78, st79, st80, st81, st82, st83, st84, st85, st86, st87, st88, st89, st90, st91, -Int.natCast_add, he, hb, htb, e1, inR]))) <;> (try omega)
  | succ m ih =>
    intro i hm hC hi
    have hc := hu i (by omega)
    simp only [Nat.zero_add] at hc
    have bi := lf_b bu i
    have e3 : ((s : Int) + (i : Int)).toNat = s + i := by omega
    rw [wp_hd]
    by_cases hw : i < w.length
    · have hc2 := hr i hw
      have bj := lf_b bw i
      rw [drop_lf (L := u) (by omega), drop_lf (L := w) hw] at hC
      simp only [cmpv] at hC
      (repeat' (first | with_reducible assumption | (refine And.intro ?_ ?_) | (with_reducible intro _) | (simp [wp_eq, wpE, mk_X0_orderTo, mg, mc_X0_orderTo, lget, lset, popN, cats, rcv, entL, isArr, kC_s, kC_n, st1, st2, st3, st4, st5, st6, st7, st8, st9, st10, st11, st12, st13, st14, st15, st16, st17, st18, st19, st20, st21, st22, st23, st24, st25, st26, st27, st28, st29, st30, st31, st32, st33, st34, st35, st36, st37, st38, st39, st40, st41, st42, st43, st44, st45, st46, st47, st48, st49, st50, st51, st52, st53, st54, st55, st56, st57, st58, st59, st60, st61, st62, st63, st64, st65, st66, st67, st68, st69, st70, st71, st72, st73, st74, st75, st76, st77, st78, st79, st80, st81, st82, st83, st84, st85, st86, st87, st88, st89, st90, st91, -Int.natCast_add, he, hb, htb, ht, e1, e3, inR, hc, hc2]))) <;> (try omega)
      · rename_i hq
        rw [if_pos hq] at hC
        exact ih (i + 1) (by omega) hC (by omega)
      · rename_i hq
        rw [if_neg hq] at hC
        exact hC
    · have hd : w.drop i = [] := List.drop_of_length_le (by omega)
      rw [hd, drop_lf (L := u) (by omega)] at hC
      have ec : cmpv (lf u i :: u.drop (i + 1)) [] = (u.length : Int) - (w.length : Int) := by simp [cmpv]; omega
      rw [ec] at hC
      (repeat' (first | with_reducible assumption | (refine And.intro ?_ ?_) | (with_reducible intro _) | (simp [wp_eq, wpE, mk_X0_orderTo, mg, mc_X0_orderTo, lget, lset, popN, cats, rcv, entL, isArr, kC_s, kC_n, st1, st2, st3, st4, st5, st6, st7, st8, st9, st10, st11, st12, st13, st14, st15, st16, st17, st18, st19, st20, st21, st22, st23, st24, st25, st26, st27, st28, st29, st30, st31, st32, st33, st34, st35, st36, st37, st38, st39, st40, st41, st42, st43, st44, st45, st46, st47, st48, st49, st50, st51, st52, st53, st54, st55, st56, st57, st58, st59, st60, st61, st62, st63, st64, st65, st66, st67, st68, st69, st70, st71, st72, st73, st74, st75, st76, st77, st78, st79, st80, st81, st82, st83, st84, st85, st86, st87, st88, st89, st90, st91, -Int.natCast_add, he, hb, htb, ht, e1, e3, inR, hc]))) <;> (try omega)
theorem c_orderTo {G : Nat → Nat} {d a e N s : Nat} {h : mH} {C : mQ} {X : mX} {p : aE} {w : List Int} (he : EN h e p) (bw : bd w) (ht : hty h a = some (21, N)) (hN : s + w.length ≤ N) (hN2 : N ≤ 60000) (hr : ro h a s w) (hC : C (some (.inl (cmpv p.1 w))) h) :
    callG (wp G) d 2 0 0 5 [.inr (.inl (some e)), .inr (.inl (some a)), .inl (s : Int), .inl ((s + w.length : Nat) : Int)] h C X := by
  obtain ⟨h1, h2, h3, h4, h5, b, h6, h7, h8⟩ := he
  refine ⟨C, fun _ _ => False, ?_, fun _ _ q => q, fun _ _ q => q.elim⟩
  (repeat' (first | with_reducible assumption | (refine And.intro ?_ ?_) | (with_reducible intro _) | (simp [wp_eq, wpE, mk_X0_orderTo, mg, mc_X0_orderTo, lget, lset, popN, cats, rcv, entL, isArr, kC_s, kC_n, st1, st2, st3, st4, st5, st6, st7, st8, st9, st10, st11, st12, st13, st14, st15, st16, st17, st18, st19, st20, st21, st22, st23, st24, st25, st26, st27, st28, st29, st30, st31, st32, st33, st34, st35, st36, st37, st38, st39, st40, st41, st42, st43, st44, st45, st46, st47, st48, st49, st50, st51, st52, st53, st54, st55, st56, st57, st58, st59, st60, st61, st62, st63, st64, st65, st66, st67, st68, st69, st70, st71, st72, st73, st74, st75, st76, st77, st78, st79, st80, st81, st82, st83, st84, st85, st86, st87, st88, st89, st90, st91, -Int.natCast_add, ht, inR]))) <;> (try omega)
  exact orderTo_loop h1 h6 h7 h8 h2 bw (by omega) ht hN hN2 hr _ 0 rfl hC (by omega)
/-- a node: kind, size, day; bits, ties, above; text; entries -/
abbrev aN : Type := (Int × Int × Int) × (Int × Int × Nat) × List Int × List aE
def nK (v : aN) : Int := v.1.1
def nZ (v : aN) : Int := v.1.2.1
def nD (v : aN) : Int := v.1.2.2
def nB (v : aN) : Int := v.2.1.1
def nT (v : aN) : Int := v.2.1.2.1
def nA (v : aN) : Nat := v.2.1.2.2
def nX (v : aN) : List Int := v.2.2.1
def nE (v : aN) : List aE := v.2.2.2
def nMx (v : aN) : Nat := if nK v = 0 then 12 else 0
def ND (h : mH) (a : Nat) (v : aN) : Prop := hty h a = some (5, 10) ∧ hvi h a 0 = nK v ∧ hvi h a 1 = nZ v ∧ hvi h a 2 = nD v ∧ hvr h a 3 = some (a + 1) ∧ hvr h a 4 = some (a + 2) ∧ hvi h a 5 = ((nE v).length : Int) ∧ hvi h a 6 = nB v ∧ hvi h a 7 = nT v ∧ hvi h a 8 = (nA v : Int) ∧ hty h (a + 1) = some (21, (nX v).length) ∧ ro h (a + 1) 0 (nX v) ∧ (bd (nX v) ∧ (nX v).length ≤ 40) ∧ hty h (a + 2) = some (25, nMx v) ∧ (nE v).length ≤ nMx v ∧ ∀ k p, (nE v)[k]? = some p → ∃ e, hvr h (a + 2) k = some e ∧ EN h e p
/-- where a name stands -/
def ixF (w : List Int) : Nat → List aE → Option Nat
  | _, [] => none
  | k, p :: E => if p.1 = w then some k else ixF w (k + 1) E
theorem nMx_le (v : aN) : nMx v ≤ 12 := by unfold nMx; split <;> omega
theorem dropE {E : List aE} {i : Nat} {p : aE} (h : E[i]? = some p) : E.drop i = p :: E.drop (i + 1) := by
  obtain ⟨h1, h2⟩ := List.getElem?_eq_some_iff.mp h
  rw [List.drop_eq_getElem_cons h1, h2]
theorem entry_loop {G : Nat → Nat} {d a b N s : Nat} {h : mH} {C : mQ} {X : mX} {v : aN} {w : List Int} (hd : 1 ≤ d) (hv : ND h b v) (bw : bd w) (ht : hty h a = some (21, N)) (hN : s + w.length ≤ N) (hN2 : N ≤ 60000) (hr : ro h a s w)
    (hC : C (some (.inr (.inl ((ixF w 0 (nE v)).bind (hvr h (b + 2)))))) h) : ∀ (m i : Nat) (x5 : Option mV), m + i = (nE v).length → ixF w 0 (nE v) = ixF w i ((nE v).drop i) →
    wp G d 39 100003 [some (.inr (.inl (some b))), some (.inr (.inl (some a))), some (.inl (s : Int)), some (.inl ((s + w.length : Nat) : Int)), some (.inl (i : Int)), x5] [] h 0 0 C X := by
  obtain ⟨v1, v2, v3, v4, v5, v6, v7, v8, v9, v10, v11, v12, v13, v14, v15, v16⟩ := hv
  have hmx := nMx_le v
  have hd0 : (0 < d) = True := eq_true (by omega)
  intro m
  induction m with
  | zero =>
    intro i x5 hm hq
    have he : (nE v).drop i = [] := List.drop_of_length_le (by omega)
    rw [he] at hq
    rw [hq] at hC
    rw [wp_hd]
    (repeat' (first | with_reducible assumption | (refine And.intro ?_ ?_) | (with_reducible intro _) | (simp [wp_eq, wpE, mk_X5_entry, mg, mc_X5_entry, lget, lset, popN, cats, rcv, entL, isArr, kC_s, kC_n, st1, st2, st3, st4, st5, st6, st7, st8, st9, st10, st11, st12, st13, st14, st15, st16, st17, st18, st19, st20, st21, st22, st23, st24, st25, st26, st27, st28, st29, st30, st31, st32, st33, st34, st35, st36, st37, st38, st39, st40, st41, st42, st43, st44, st45, st46, st47, st48, st49, st50, st51, st52, st53, st54, st55, st56, st57, st58, st59, st60, st61, st62, st63, st64, st65, st66, st67, st68, st69, st70, st71, st72, st73, st74, st75, st76, st77, st78, st79, st80, st81, st82, st83, st84, st85, st86, st87, st88, st89, st90, st91, -Int.natCast_add, v1, v5, v6, v7, v14]))) <;> (try omega)
    all_goals (first | exact hC | (exfalso; omega))
  | succ m ih =>
    intro i x5 hm hq
    have hp : (nE v)[i]? = some ((nE v)[i]'(by omega)) := List.getElem?_eq_getElem (by omega)
    obtain ⟨e, he1, he2⟩ := v16 i _ hp
    have he3 := he2.1
    rw [dropE hp] at hq
    simp only [ixF] at hq
    rw [wp_hd]
    (repeat' (first | with_reducible assumption | (refine c_orderTo he2 bw ht hN hN2 hr ?_) | (refine And.intro ?_ ?_) | (with_reducible intro _) | (simp [wp_eq, wpE, mk_X5_entry, mg, mc_X5_entry, lget, lset, popN, cats, rcv, entL, isArr, kC_s, kC_n, st1, st2, st3, st4, st5, st6, st7, st8, st9, st10, st11, st12, st13, st14, st15, st16, st17, st18, st19, st20, st21, st22, st23, st24, st25, st26, st27, st28, st29, st30, st31, st32, st33, st34, st35, st36, st37, st38, st39, st40, st41, st42, st43, st44, st45, st46, st47, st48, st49, st50, st51, st52, st53, st54, st55, st56, st57, st58, st59, st60, st61, st62, st63, st64, st65, st66, st67, st68, st69, st70, st71, st72, st73, st74, st75, st76, st77, st78, st79, st80, st81, st82, st83, st84, st85, st86, st87, st88, st89, st90, st91, -Int.natCast_add, v1, v5, v6, v7, v14, he1, he3, hd0, inR]))) <;> (try omega)
    · rename_i hz
      rw [cmpv_0] at hz
      rw [if_neg hz] at hq
      exact ih (i + 1) _ (by omega) hq
    · rename_i hz
      rw [cmpv_0] at hz
      rw [if_pos hz] at hq
      rw [hq] at hC
      simpa [he1] using hC
theorem c_entry {G : Nat → Nat} {d a b N s : Nat} {h : mH} {C : mQ} {X : mX} {v : aN} {w : List Int} (hd : 2 ≤ d) (hv : ND h b v) (bw : bd w) (ht : hty h a = some (21, N)) (hN : s + w.length ≤ N) (hN2 : N ≤ 60000) (hr : ro h a s w)
    (hC : C (some (.inr (.inl ((ixF w 0 (nE v)).bind (hvr h (b + 2)))))) h) : callG (wp G) d 39 0 0 6 [.inr (.inl (some b)), .inr (.inl (some a)), .inl (s : Int), .inl ((s + w.length : Nat) : Int)] h C X := by
  refine cg 1 (by omega) (fun d hd => ?_)
  have hd0 : (0 < d) = True := eq_true (by omega)
  (repeat' (first | with_reducible assumption | (refine And.intro ?_ ?_) | (with_reducible intro _) | (simp [wp_eq, wpE, mk_X5_entry, mg, mc_X5_entry, lget, lset, popN, cats, rcv, entL, isArr, kC_s, kC_n, st1, st2, st3, st4, st5, st6, st7, st8, st9, st10, st11, st12, st13, st14, st15, st16, st17, st18, st19, st20, st21, st22, st23, st24, st25, st26, st27, st28, st29, st30, st31, st32, st33, st34, st35, st36, st37, st38, st39, st40, st41, st42, st43, st44, st45, st46, st47, st48, st49, st50, st51, st52, st53, st54, st55, st56, st57, st58, st59, st60, st61, st62, st63, st64, st65, st66, st67, st68, st69, st70, st71, st72, st73, st74, st75, st76, st77, st78, st79, st80, st81, st82, st83, st84, st85, st86, st87, st88, st89, st90, st91, -Int.natCast_add]))) <;> (try omega)
  exact entry_loop (by omega) hv bw ht hN hN2 hr hC _ 0 _ rfl rfl
/-- the tree: its nodes, HERE -/
abbrev aT : Type := Nat → Option aN
def cnt (T : aT) : Nat → Nat
  | 0 => 0
  | n + 1 => cnt T n + (if T n = none then 0 else 1)
def TR (t : Nat) (h : mH) (T : aT) (here : Nat) : Prop := hty h t = some (7, 3) ∧ hvr h t 0 = some (t + 1) ∧ hty h (t + 1) = some (24, 48) ∧ hvi h t 1 = (cnt T 48 : Int) ∧ hvi h t 2 = (here : Int) ∧ (∀ n, n < 48 → T n = none → hvr h (t + 1) n = none) ∧ (∀ n v, n < 48 → T n = some v → ∃ a, hvr h (t + 1) n = some a ∧ ND h a v) ∧ ∀ n m a, n < 48 → m < 48 → hvr h (t + 1) n = some a → hvr h (t + 1) m = some a → n = m
theorem c_at {G : Nat → Nat} {d t : Nat} {h : mH} {C : mQ} {X : mX} {T : aT} {here : Nat} {z : Int} (H : TR t h T here) (hC : C (some (.inr (.inl (if 0 ≤ z ∧ z < 48 then hvr h (t + 1) z.toNat else none)))) h) :
    callG (wp G) d 48 0 0 2 [.inr (.inl (some t)), .inl z] h C X := by
  obtain ⟨t1, t2, t3, t4⟩ := H
  refine ⟨C, fun _ _ => False, ?_, fun _ _ q => q, fun _ _ q => q.elim⟩
  (repeat' (first | with_reducible assumption | (refine And.intro ?_ ?_) | (with_reducible intro _) | (simp [wp_eq, wpE, mk_X7_at, mg, mc_X7_at, lget, lset, popN, cats, rcv, entL, isArr, kC_s, kC_n, st1, st2, st3, st4, st5, st6, st7, st8, st9, st10, st11, st12, st13, st14, st15, st16, st17, st18, st19, st20, st21, st22, st23, st24, st25, st26, st27, st28, st29, st30, st31, st32, st33, st34, st35, st36, st37, st38, st39, st40, st41, st42, st43, st44, st45, st46, st47, st48, st49, st50, st51, st52, st53, st54, st55, st56, st57, st58, st59, st60, st61, st62, st63, st64, st65, st66, st67, st68, st69, st70, st71, st72, st73, st74, st75, st76, st77, st78, st79, st80, st81, st82, st83, st84, st85, st86, st87, st88, st89, st90, st91, t1, t2, t3]))) <;> (try omega)
  · rw [if_neg (by omega)] at hC; exact hC
  · rw [if_neg (by omega)] at hC; exact hC
  · rw [if_pos (by omega)] at hC; exact hC
theorem c_atN {G : Nat → Nat} {d t n : Nat} {h : mH} {C : mQ} {X : mX} {T : aT} {here : Nat} (hn : n < 48) (H : TR t h T here) (hC : C (some (.inr (.inl (hvr h (t + 1) n)))) h) :
    callG (wp G) d 48 0 0 2 [.inr (.inl (some t)), .inl (n : Int)] h C X := c_at H (by rw [if_pos (by omega)]; exact hC)
def tK (T : aT) (n : Nat) : Int := ((T n).map nK).getD (-1)
theorem c_isDirectory {G : Nat → Nat} {d t n : Nat} {h : mH} {C : mQ} {X : mX} {T : aT} {here : Nat} (hd : 2 ≤ d) (hn : n < 48) (H : TR t h T here) (hC : C (some (.inl (b01 (tK T n == 0)))) h) :
    callG (wp G) d 49 0 0 3 [.inr (.inl (some t)), .inl (n : Int)] h C X := by
  have hh := H
  obtain ⟨t1, t2, t3, t4, t5, t6, t7, t8⟩ := hh
  refine cg 1 (by omega) (fun d hd => ?_)
  have hd0 : (0 < d) = True := eq_true (by omega)
  cases hT : T n with
  | none =>
    have q := t6 n hn hT
    simp [tK, hT, b01] at hC
    (repeat' (first | with_reducible assumption | (refine c_atN hn H ?_) | (refine And.intro ?_ ?_) | (with_reducible intro _) | (simp [wp_eq, wpE, mk_X7_isDirectory, mg, mc_X7_isDirectory, lget, lset, popN, cats, rcv, entL, isArr, kC_s, kC_n, st1, st2, st3, st4, st5, st6, st7, st8, st9, st10, st11, st12, st13, st14, st15, st16, st17, st18, st19, st20, st21, st22, st23, st24, st25, st26, st27, st28, st29, st30, st31, st32, st33, st34, st35, st36, st37, st38, st39, st40, st41, st42, st43, st44, st45, st46, st47, st48, st49, st50, st51, st52, st53, st54, st55, st56, st57, st58, st59, st60, st61, st62, st63, st64, st65, st66, st67, st68, st69, st70, st71, st72, st73, st74, st75, st76, st77, st78, st79, st80, st81, st82, st83, st84, st85, st86, st87, st88, st89, st90, st91, t1, hd0, q]))) <;> (try omega)
  | some v =>
    obtain ⟨a, q1, q2⟩ := t7 n v hn hT
    have q3 := q2.1
    have q4 := q2.2.1
    simp [tK, hT, b01] at hC
    (repeat' (first | with_reducible assumption | (refine c_atN hn H ?_) | (refine And.intro ?_ ?_) | (with_reducible intro _) | (simp [wp_eq, wpE, mk_X7_isDirectory, mg, mc_X7_isDirectory, lget, lset, popN, cats, rcv, entL, isArr, kC_s, kC_n, st1, st2, st3, st4, st5, st6, st7, st8, st9, st10, st11, st12, st13, st14, st15, st16, st17, st18, st19, st20, st21, st22, st23, st24, st25, st26, st27, st28, st29, st30, st31, st32, st33, st34, st35, st36, st37, st38, st39, st40, st41, st42, st43, st44, st45, st46, st47, st48, st49, st50, st51, st52, st53, st54, st55, st56, st57, st58, st59, st60, st61, st62, st63, st64, st65, st66, st67, st68, st69, st70, st71, st72, st73, st74, st75, st76, st77, st78, st79, st80, st81, st82, st83, st84, st85, st86, st87, st88, st89, st90, st91, t1, hd0, q1, q3, q4]))) <;> (try omega)
    all_goals (rename_i hz; first | (rw [if_pos hz] at hC; exact hC) | (rw [if_neg hz] at hC; exact hC))
