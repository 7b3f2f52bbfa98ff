/-! THE REFERENCE reads an expression: the pile -/
def pileV (V : aV) : List Nat := (if V.1.isSome = true then [11] else []) ++ ((if V.2.1.isSome = true then [10] else []) ++ List.replicate V.2.2 9)
def pileL : List aV → List Nat
  | [] => []
  | V :: Ls => pileL Ls ++ (pileV V ++ [12])
def pileZ (z : aZ) : List Nat := pileL z.1 ++ pileV z.2.1
def opsV (V : aV) : List bT := V.1.toList ++ V.2.1.toList
def opsL : List aV → List bT
  | [] => []
  | V :: Ls => opsL Ls ++ opsV V
def opsZ (z : aZ) : List bT := opsL z.1 ++ (opsV z.2.1 ++ z.2.2.toList)
def pndL : List aV → Nat
  | [] => 0
  | V :: Ls => pndL Ls + V.2.2
def pnd (z : aZ) : Nat := pndL z.1 + z.2.1.2.2
theorem pileV_len (V : aV) : (pileV V).length = (opsV V).length + V.2.2 := by
  obtain ⟨o, a, k⟩ := V
  cases o <;> cases a <;> simp [pileV, opsV] <;> omega
theorem pileL_len : ∀ Ls : List aV, (pileL Ls).length = (opsL Ls).length + pndL Ls + Ls.length := by
  intro Ls
  induction Ls with
  | nil => rfl
  | cons V Ls ih =>
    have := pileV_len V
    simp only [pileL, opsL, pndL, List.length_append, List.length_cons, List.length_nil]
    omega
theorem pileZ_len (z : aZ) : (pileZ z).length + z.2.2.toList.length = (opsZ z).length + pnd z + z.1.length := by
  have h1 := pileL_len z.1
  have h2 := pileV_len z.2.1
  unfold pileZ opsZ pnd
  simp only [List.length_append]
  omega
def StP (r : Nat) (M : List Int) (h0 : mH) (Y : List Nat) (Q : List bT) (N : Nat) (h : mH) : Prop := RN r h ∧ NW r h N M ∧ PIL r h Y ∧ OP r h N Q ∧ chJ (sR r sAP) h0 h
theorem PIL_pre {r : Nat} {h : mH} {Y Y' : List Nat} (H : PIL r h (Y ++ Y')) : PIL r h Y := fun i y hi => H i y (by rw [List.getElem?_append_left (List.getElem?_eq_some_iff.mp hi).1]; exact hi)
def opB (k : Nat) (x y : bT) : bT := if k = 10 then .mul x y else .add x y
def popR (r : Nat) (M : List Int) (h0 : mH) (Hd : List Nat → List bT → Nat → mH → Prop) (k : Nat) : Prop := ∀ (Y : List Nat) (Q : List bT) (x y : bT) (N : Nat) (h : mH), N < 60 → Q.length + 2 ≤ 60 → Y.length ≤ 120 → StP r M h0 (Y ++ [k]) (Q ++ [x, y]) N h → (∀ h', StP r M h0 Y (Q ++ [opB k x y]) (N + 1) h' → Hd Y (Q ++ [opB k x y]) (N + 1) h') → Hd (Y ++ [k]) (Q ++ [x, y]) N h
theorem redA {r : Nat} {M : List Int} {h0 : mH} {Hd : List Nat → List bT → Nat → mH → Prop} (pop : popR r M h0 Hd 10) {o a : Option bT} {e : bT} {Ls : List aV} {N : Nat} {h : mH} (hS : StP r M h0 (pileL Ls ++ pileV (o, a, 0)) (opsL Ls ++ (opsV (o, a, 0) ++ [e])) N h) (hb : N + (opsL Ls ++ (opsV (o, a, 0) ++ [e])).length ≤ 51) (hp : (pileL Ls ++ pileV (o, a, 0)).length ≤ 120)
    (fin : ∀ N' h', N' + (opsL Ls ++ (opsV (o, none, 0) ++ [coA a e])).length = N + (opsL Ls ++ (opsV (o, a, 0) ++ [e])).length → StP r M h0 (pileL Ls ++ pileV (o, none, 0)) (opsL Ls ++ (opsV (o, none, 0) ++ [coA a e])) N' h' → Hd (pileL Ls ++ pileV (o, none, 0)) (opsL Ls ++ (opsV (o, none, 0) ++ [coA a e])) N' h') :
    Hd (pileL Ls ++ pileV (o, a, 0)) (opsL Ls ++ (opsV (o, a, 0) ++ [e])) N h := by
  cases a with
  | none => exact fin N h rfl hS
  | some A =>
    have e1 : pileL Ls ++ pileV (o, some A, 0) = (pileL Ls ++ pileV (o, none, 0)) ++ [10] := by cases o <;> simp [pileV]
    have e2 : opsL Ls ++ (opsV (o, some A, 0) ++ [e]) = (opsL Ls ++ opsV (o, none, 0)) ++ [A, e] := by cases o <;> simp [opsV]
    have e3 : opsL Ls ++ (opsV (o, none, 0) ++ [coA (some A) e]) = (opsL Ls ++ opsV (o, none, 0)) ++ [opB 10 A e] := by simp [coA, opB]
    rw [e1, e2] at hS ⊢
    rw [e2] at hb
    rw [e1] at hp
    simp only [List.length_append, List.length_cons, List.length_nil] at hb hp
    refine pop _ _ A e N h (by omega) (by simp only [List.length_append]; omega) (by simp only [List.length_append]; omega) hS (fun h' hS' => ?_)
    rw [← e3] at hS' ⊢
    refine fin (N + 1) h' ?_ hS'
    rw [e2, e3]
    simp only [List.length_append, List.length_cons, List.length_nil]
    omega
theorem redO {r : Nat} {M : List Int} {h0 : mH} {Hd : List Nat → List bT → Nat → mH → Prop} (pop : popR r M h0 Hd 11) {o : Option bT} {e : bT} {Ls : List aV} {N : Nat} {h : mH} (hS : StP r M h0 (pileL Ls ++ pileV (o, none, 0)) (opsL Ls ++ (opsV (o, none, 0) ++ [e])) N h) (hb : N + (opsL Ls ++ (opsV (o, none, 0) ++ [e])).length ≤ 51) (hp : (pileL Ls ++ pileV (o, none, 0)).length ≤ 120)
    (fin : ∀ N' h', N' + (opsL Ls ++ [coO o e]).length = N + (opsL Ls ++ (opsV (o, none, 0) ++ [e])).length → StP r M h0 (pileL Ls) (opsL Ls ++ [coO o e]) N' h' → Hd (pileL Ls) (opsL Ls ++ [coO o e]) N' h') :
    Hd (pileL Ls ++ pileV (o, none, 0)) (opsL Ls ++ (opsV (o, none, 0) ++ [e])) N h := by
  cases o with
  | none =>
    have e1 : pileL Ls ++ pileV (none, none, 0) = pileL Ls := by simp [pileV]
    have e2 : opsL Ls ++ (opsV (none, none, 0) ++ [e]) = opsL Ls ++ [coO none e] := by simp [opsV, coO]
    rw [e1, e2] at hS ⊢
    exact fin N h (by rw [e2]) hS
  | some O =>
    have e1 : pileL Ls ++ pileV (some O, none, 0) = pileL Ls ++ [11] := by simp [pileV]
    have e2 : opsL Ls ++ (opsV (some O, none, 0) ++ [e]) = opsL Ls ++ [O, e] := by simp [opsV]
    have e3 : opsL Ls ++ [coO (some O) e] = opsL Ls ++ [opB 11 O e] := by simp [coO, opB]
    rw [e1, e2] at hS ⊢
    rw [e2] at hb
    rw [e1] at hp
    simp only [List.length_append, List.length_cons, List.length_nil] at hb hp
    refine pop _ _ O e N h (by omega) (by omega) (by omega) hS (fun h' hS' => ?_)
    rw [← e3] at hS' ⊢
    refine fin (N + 1) h' ?_ hS'
    rw [e2, e3]
    simp only [List.length_append, List.length_cons, List.length_nil]
    omega
/-- the loop before a word that joins -/
def H402 (G : Nat → Nat) (d r w : Nat) (b : Bool) (x1 x4 x6 x8 : Option mV) (C : mQ) (X : mX) : List Nat → List bT → Nat → mH → Prop := fun Y Q _ h => wp G d 127 100402 [some (.inr (.inl (some r))), x1, some (.inl (Y.length : Int)), some (.inl (Q.length : Int)), x4, some (.inl (w : Int)), x6, some (.inl (b01 b)), x8] [] h 0 0 C X
theorem pl_top {r k : Nat} {h : mH} {Y : List Nat} (H : PIL r h (Y ++ [k])) : hvi h (r + 23) Y.length = (k : Int) := H Y.length k (by simp)
theorem StP_two {r N : Nat} {M : List Int} {h0 h h' : mH} {Y : List Nat} {k : Nat} {Q Q' : List bT} (hS : StP r M h0 (Y ++ [k]) Q N h) (q : chJ (sR r sAP) h h') (hN : NW r h' (N + 1) M) (hO : OP r h' (N + 1) Q') : StP r M h0 Y Q' (N + 1) h' := ⟨RN_ch q hS.1, hN, PIL_ch q (by simp [sAP]) (PIL_pre hS.2.2.1), hO, chJ_trans hS.2.2.2.2 q⟩
theorem pop402 {G : Nat → Nat} {d r w : Nat} {b : Bool} {x1 x4 x6 x8 : Option mV} {C : mQ} {X : mX} {M : List Int} {h0 : mH} (hd : 3 ≤ d) {k : Nat} (hk : k = 10 ∨ k = 11 ∧ b = true) : popR r M h0 (H402 G d r w b x1 x4 x6 x8 C X) k := by
  intro Y Q x y N h hN hQ hY hS hC
  have hd0 : (0 < d) = True := eq_true (by omega)
  have HR := hS.1
  have R0 := HR.1; have R_pile := rn_pile HR; have R_operands := rn_operands HR
  have ct := pl_top hS.2.2.1
  have e0 : ((Y ++ [k]).length : Int) = (Y.length : Int) + 1 := by simp
  have e1 : ((Y.length : Int) + 1 - 1).toNat = Y.length := by omega
  have e2 : (Y.length : Int) + 1 + -1 = (Y.length : Int) := by omega
  have e3 : ((Q ++ [x, y]).length : Int) = ((Q.length + 2 : Nat) : Int) := by simp
  unfold H402 at hC ⊢
  rw [e0, e3, wp_hd]
  have cat : ∀ {C : mQ} {X : mX}, (∀ h', StP r M h0 Y (Q ++ [opB k x y]) (N + 1) h' → C (some (.inl ((Q ++ [opB k x y]).length : Int))) h') → callG (wp G) d 130 0 0 3 [.inr (.inl (some r)), .inl (k : Int), .inl ((Q.length + 2 : Nat) : Int)] h C X := fun {C X} z => r_applyTwo (e := opB k x y) (by omega) HR hS.2.1 hN hS.2.2.2.1 hQ rfl (by rcases hk with rfl | ⟨rfl, -⟩ <;> simp [opB]) (fun h' q1 q2 q3 => z h' (StP_two hS q1 q2 q3))
  rcases hk with rfl | ⟨rfl, rfl⟩
  · have hz := hC
    cases b
    all_goals
      (repeat' (first | with_reducible assumption | (refine cat ?_) | (refine And.intro ?_ ?_) | (with_reducible intro _) | (simp [wp_eq, wpE, mk_X11_parse, mg, mc_X11_parse, lget, lset, popN, cats, rcv, entL, isArr, kC_s, kC_n, st1, st2, st3, st4, st5, st6, st7, st8, st9, st10, st11, st12, st13, st14, st15, st16, st17, st18, st19, st20, st21, st22, st23, st24, st25, st26, st27, st28, st29, st30, st31, st32, st33, st34, st35, st36, st37, st38, st39, st40, st41, st42, st43, st44, st45, st46, st47, st48, st49, st50, st51, st52, st53, st54, st55, st56, st57, st58, st59, st60, st61, st62, st63, st64, st65, st66, st67, st68, st69, st70, st71, st72, st73, st74, st75, st76, st77, st78, st79, st80, st81, st82, st83, st84, st85, st86, st87, st88, st89, st90, st91, R0, R_pile, R_operands, -Int.natCast_add, -List.length_append, ct, e1, e2, hd0, inR, b01, show ¬ (Y.length : Int) + 1 ≤ 0 by omega, show 0 < (Y.length : Int) + 1 by omega]))) <;> (try (first | omega | exact hz))
      all_goals first | omega | exact hz _ (by assumption)
  · have hz := hC
    (repeat' (first | with_reducible assumption | (refine cat ?_) | (refine And.intro ?_ ?_) | (with_reducible intro _) | (simp [wp_eq, wpE, mk_X11_parse, mg, mc_X11_parse, lget, lset, popN, cats, rcv, entL, isArr, kC_s, kC_n, st1, st2, st3, st4, st5, st6, st7, st8, st9, st10, st11, st12, st13, st14, st15, st16, st17, st18, st19, st20, st21, st22, st23, st24, st25, st26, st27, st28, st29, st30, st31, st32, st33, st34, st35, st36, st37, st38, st39, st40, st41, st42, st43, st44, st45, st46, st47, st48, st49, st50, st51, st52, st53, st54, st55, st56, st57, st58, st59, st60, st61, st62, st63, st64, st65, st66, st67, st68, st69, st70, st71, st72, st73, st74, st75, st76, st77, st78, st79, st80, st81, st82, st83, st84, st85, st86, st87, st88, st89, st90, st91, R0, R_pile, R_operands, -Int.natCast_add, -List.length_append, ct, e1, e2, hd0, inR, b01, show ¬ (Y.length : Int) + 1 ≤ 0 by omega, show 0 < (Y.length : Int) + 1 by omega]))) <;> (try (first | omega | exact hz))
    all_goals first | omega | exact hz _ (by assumption)
