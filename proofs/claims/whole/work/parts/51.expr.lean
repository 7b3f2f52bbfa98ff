/-! THE EXPRESSION of the class: words -/
/-- the kind of a word: the number of the text that it is, or 0 -/
def kdOf (w : List Int) : Nat := if w = sT 1 then 1 else if w = sT 2 then 2 else if w = sT 3 then 3 else if w = sT 4 then 4 else if w = sT 5 then 5 else if w = sT 6 then 6 else if w = sT 7 then 7 else if w = sT 8 then 8 else if w = sT 9 then 9 else if w = sT 10 then 10 else if w = sT 11 then 11 else if w = sT 12 then 12 else if w = sT 13 then 13 else if w = sT 14 then 14 else 0
theorem kd_min {w : List Int} (h : lf w 0 = 45) : ¬ w = sT 1 ∧ ¬ w = sT 2 ∧ ¬ w = sT 3 := by
  refine ⟨fun q => ?_, fun q => ?_, fun q => ?_⟩ <;> rw [q] at h <;> simp [sT, sTxt, lf] at h
theorem kd_not {w : List Int} (h : ¬ lf w 0 = 45) : ∀ i, 4 ≤ i → i ≤ 14 → ¬ w = sT i := by
  intro i h1 h2 q
  have key : ∀ i, i < 15 → 4 ≤ i → lf (sT i) 0 = 45 := by decide
  exact h (by rw [q]; exact key i (by omega) h1)
theorem c_kindOfMinus {G : Nat → Nat} {d x l k : Nat} {h : mH} {C : mQ} {X : mX} {L : List Int} (hd : 7 ≤ d) (hx : hty h x = some (1, 8)) (hxl : hvr h x 0 = some l) (H : LI l h L) (hm : lf (wd L k) 0 = 45) (hC : C (some (.inl (kdOf (wd L k) : Int))) h) :
    callG (wp G) d 7 0 0 2 [.inr (.inl (some x)), .inl (k : Int)] h C X := by
  have a1 := H.1.1
  obtain ⟨n1, n2, n3⟩ := kd_min hm
  unfold kdOf at hC
  rw [if_neg n1, if_neg n2, if_neg n3] at hC
  refine cg 6 (by omega) (fun d hd => ?_)
  have hd0 : (0 < d) = True := eq_true (by omega)
  generalize hw : wd L k = w at *
  have cis : ∀ {i : Nat} {C : mQ} {X : mX}, 1 ≤ i → i ≤ 14 → C (some (.inl (b01 (w == sT i)))) h → callG (wp G) d 33 0 0 4 [.inr (.inl (some l)), .inl (k : Int), .inr (.inl (some (G i)))] h C X := fun {i C X} h1 h2 q => c_is (by omega) H h1 h2 (by rw [hw]; exact q)
  (repeat' (first | with_reducible assumption | (refine cis (by decide) (by decide) ?_) | (refine And.intro ?_ ?_) | (with_reducible intro _) | (simp [wp_eq, wpE, mk_X1_kindOfMinus, mg, mc_X1_kindOfMinus, lget, lset, popN, cats, rcv, entL, isArr, kC_s, kC_n, st1, st2, st3, st4, st5, st6, st7, st8, st9, st10, st11, st12, st13, st14, st15, st16, st17, st18, st19, st20, st21, st22, st23, st24, st25, st26, st27, st28, st29, st30, st31, st32, st33, st34, st35, st36, st37, st38, st39, st40, st41, st42, st43, st44, st45, st46, st47, st48, st49, st50, st51, st52, st53, st54, st55, st56, st57, st58, st59, st60, st61, st62, st63, st64, st65, st66, st67, st68, st69, st70, st71, st72, st73, st74, st75, st76, st77, st78, st79, st80, st81, st82, st83, st84, st85, st86, st87, st88, st89, st90, st91, hx, hxl, a1, hd0]))) <;> (try (first | omega | exact hz))
  all_goals (simp_all [b01])
theorem c_kindOf {G : Nat → Nat} {d x l k : Nat} {h : mH} {C : mQ} {X : mX} {L : List Int} (hd : 8 ≤ d) (hx : hty h x = some (1, 8)) (hxl : hvr h x 0 = some l) (H : LI l h L) (hC : C (some (.inl (kdOf (wd L k) : Int))) h) :
    callG (wp G) d 6 0 0 2 [.inr (.inl (some x)), .inl (k : Int)] h C X := by
  have a1 := H.1.1
  refine cg 7 (by omega) (fun d hd => ?_)
  have hd0 : (0 < d) = True := eq_true (by omega)
  by_cases hm : lf (wd L k) 0 = 45
  · (repeat' (first | with_reducible assumption | (refine c_letter (k := k) (i := 0) (by omega) H ?_) | (refine c_kindOfMinus (by omega) hx hxl H hm ?_) | (refine And.intro ?_ ?_) | (with_reducible intro _) | (simp [wp_eq, wpE, mk_X1_kindOf, mg, mc_X1_kindOf, lget, lset, popN, cats, rcv, entL, isArr, kC_s, kC_n, st1, st2, st3, st4, st5, st6, st7, st8, st9, st10, st11, st12, st13, st14, st15, st16, st17, st18, st19, st20, st21, st22, st23, st24, st25, st26, st27, st28, st29, st30, st31, st32, st33, st34, st35, st36, st37, st38, st39, st40, st41, st42, st43, st44, st45, st46, st47, st48, st49, st50, st51, st52, st53, st54, st55, st56, st57, st58, st59, st60, st61, st62, st63, st64, st65, st66, st67, st68, st69, st70, st71, st72, st73, st74, st75, st76, st77, st78, st79, st80, st81, st82, st83, st84, st85, st86, st87, st88, st89, st90, st91, hx, hxl, a1, hd0, hm]))) <;> (try (first | omega | exact hz))
  · have hn := kd_not hm
    unfold kdOf at hC
    rw [if_neg (hn 4 (by decide) (by decide)), if_neg (hn 5 (by decide) (by decide)), if_neg (hn 6 (by decide) (by decide)), if_neg (hn 7 (by decide) (by decide)), if_neg (hn 8 (by decide) (by decide)), if_neg (hn 9 (by decide) (by decide)), if_neg (hn 10 (by decide) (by decide)), if_neg (hn 11 (by decide) (by decide)), if_neg (hn 12 (by decide) (by decide)), if_neg (hn 13 (by decide) (by decide)), if_neg (hn 14 (by decide) (by decide))] at hC
    have cle : ∀ {C : mQ} {X : mX}, C (some (.inl (lf (wd L k) 0))) h → callG (wp G) d 32 0 0 3 [.inr (.inl (some l)), .inl (k : Int), .inl 0] h C X := fun {C X} q => c_letter (k := k) (i := 0) (by omega) H q
    generalize hw : wd L k = w at *
    have cis : ∀ {i : Nat} {C : mQ} {X : mX}, 1 ≤ i → i ≤ 14 → C (some (.inl (b01 (w == sT i)))) h → callG (wp G) d 33 0 0 4 [.inr (.inl (some l)), .inl (k : Int), .inr (.inl (some (G i)))] h C X := fun {i C X} h1 h2 q => c_is (by omega) H h1 h2 (by rw [hw]; exact q)
    (repeat' (first | with_reducible assumption | (refine cle ?_) | (refine cis (by decide) (by decide) ?_) | (refine And.intro ?_ ?_) | (with_reducible intro _) | (simp [wp_eq, wpE, mk_X1_kindOf, mg, mc_X1_kindOf, lget, lset, popN, cats, rcv, entL, isArr, kC_s, kC_n, st1, st2, st3, st4, st5, st6, st7, st8, st9, st10, st11, st12, st13, st14, st15, st16, st17, st18, st19, st20, st21, st22, st23, st24, st25, st26, st27, st28, st29, st30, st31, st32, st33, st34, st35, st36, st37, st38, st39, st40, st41, st42, st43, st44, st45, st46, st47, st48, st49, st50, st51, st52, st53, st54, st55, st56, st57, st58, st59, st60, st61, st62, st63, st64, st65, st66, st67, st68, st69, st70, st71, st72, st73, st74, st75, st76, st77, st78, st79, st80, st81, st82, st83, st84, st85, st86, st87, st88, st89, st90, st91, hx, hxl, a1, hd0, hm]))) <;> (try (first | omega | exact hz))
    all_goals (simp_all [b01])
def dig (c : Int) : Bool := decide (48 ≤ c) && decide (c ≤ 57)
def vlu : Int → List Int → Int
  | n, [] => n
  | n, c :: w => vlu (n * 10 + (c - 48)) w
def sgd (w : List Int) : Bool := (lf w 0 == 43) || (lf w 0 == 45)
def nbr (w : List Int) : Option (Int × Int) := if 1 ≤ (w.drop (if sgd w then 1 else 0)).length ∧ (w.drop (if sgd w then 1 else 0)).length ≤ 6 ∧ (w.drop (if sgd w then 1 else 0)).all dig = true then some (vlu 0 (w.drop (if sgd w then 1 else 0)), if sgd w then lf w 0 else 61) else none
def Bm : Nat → Int
  | 0 => 999999 | 1 => 99999 | 2 => 9999 | 3 => 999 | 4 => 99 | 5 => 9 | _ => 0
theorem Bm_step : ∀ m, m < 6 → 10 * Bm (m + 1) + 9 ≤ Bm m := by decide
theorem Bm_le : ∀ m, m < 7 → Bm m ≤ 999999 := by decide
