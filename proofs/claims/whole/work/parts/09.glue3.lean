/-! THE CLAIM OUT OF ONE WALK OF THE LAW'S BODY. Your part is whole_start (and what it stands on); all else here is the same for every law, but numbers. -/
def R_law : String := "FindTreeLaw"
def lw_P (b : Addr) (xs : List Int32) (args : Array Value) (s : State) : Prop := args = #[.ref b] ∧ s.IntsAt b xs ∧ xs.length ≤ 3072 ∧ (Jvm.Cond.and given_1 narrow_1).before args s = true
def lw_Q (_ : Array Value) (s : State) (o : Outcome) (t : State) : Prop := o = .returned (some (.int 1)) ∧ Framed s o t [] 601024 7293034
def lw_Z (below : List Frame) (a : Array Value) (s : State) : State → Prop := fun t => ∃ o, t.status = .running ∧ Ended t below o ∧ lw_Q a s o t
/-- the law's own end, with 1 on the stack, nothing written that was there before, its room as the claim has it -/
theorem lw_ret {p : Program} {l : Launch} {e : Env} {s : State} {m : MethodId} {below : List Frame} {meth : Method} {c : Code} {b : Nat} (hx : p.tables.exec = Jvm.exec) (hb : c.code = code) (hr : meth.sig.returnType = ret) (hlocks : meth.locks = false) {pc : Nat} {H : Heap} {ls : Array Slot} (hdg : decode code pc = .ok (.ireturn, 1)) : W p l e room_1 s m #[Value.ref b] below meth c H [] 601024 7293034 (lw_Z below #[Value.ref b] s) (F0 m pc ls [.int 1]) := by
  intro T hT X
  obtain ⟨fs, hret, hrun, hended, hW, hframe⟩ := X.leave (v := some (.int 1)) (hlocks := hlocks) (fun h => by rw [hr] at h; cases h)
  have hmeth' : T.vm.method? m = some meth := X.method'
  refine ⟨T.setFrames fs, ?_, .returned (some (.int 1)), hrun, hended, rfl, ⟨_, rfl⟩, hW, hframe⟩
  jvm_step X.here [X.here.top, hx, hb, hdg, hmeth', hr, ret, narrow_b1]
  (try refine ⟨rfl, ?_⟩); (try refine ⟨rfl, ?_⟩)
  first | (intro acts; rw [hret _ acts rfl rfl rfl]) | rw [hret _ _ rfl rfl rfl]
  exact Steps.refl _
/-- what holds at the law's entry: the machine, the code, the tables' words (any of lw_tbl by 'hts w (by decide +kernel)'), the script of L ints xs at the cell b, what the Statement gives of the start (any of its parts by flat_of_before) -/
def lw_At (p : Program) (s : State) (m : MethodId) (meth : Method) (c : Code) (b L : Nat) (xs : Nat → Int32) : Prop :=
  p.tables.exec = Jvm.exec ∧ c.code = code ∧ meth.sig.returnType = ret ∧ c.maxLocals = 7 ∧ s.vm.findClass R_law = some m.cls ∧ (∀ w ∈ lw_tbl, w.before #[Value.ref b] s = true) ∧ va_X b L xs s s.heap ∧ b < s.heap.size ∧ meth.locks = false ∧ (Jvm.Cond.and given_1 narrow_1).before #[Value.ref b] s = true

def tmS : Nat → Term := fun i => match i with
  | 0 => .string "FindTree$Expression" 64
  | 1 => .string "FindTree$Expression" 70
  | 2 => .string "FindTree$Expression" 72
  | 3 => .string "FindTree$Expression" 74
  | 4 => .string "FindTree$Expression" 76
  | 5 => .string "FindTree$Expression" 78
  | 6 => .string "FindTree$Expression" 80
  | 7 => .string "FindTree$Expression" 82
  | 8 => .string "FindTree$Expression" 84
  | 9 => .string "FindTree$Expression" 86
  | 10 => .string "FindTree$Expression" 88
  | 11 => .string "FindTree$Expression" 90
  | 12 => .string "FindTree$Expression" 92
  | _ => .string "FindTree$Expression" 94
def lenS : List Nat := sTxt.map List.length
def bytS : List (List Int32) := sTxt.map (fun l => l.map Int32.ofInt)
def LW : List Cond := flatC (Jvm.Cond.and given_1 narrow_1)
theorem n_ex : ∀ i, i < 14 → Cond.exactly (tmS i) "java/lang/String" ∈ LW := by decide +kernel
theorem n_co : ∀ i, i < 14 → Cond.eq (.field (tmS i) "java/lang/String" "coder" "B") (.int 0) ∈ LW := by decide +kernel
theorem n_ar : ∀ i, i < 14 → Cond.arrayOf (.field (tmS i) "java/lang/String" "value" "[B") .byte ∈ LW := by decide +kernel
theorem n_le : ∀ i, i < 14 → Cond.eq (.length (.field (tmS i) "java/lang/String" "value" "[B")) (.int (Int32.ofNat (lenS.getD i 0))) ∈ LW := by decide +kernel
theorem n_el : ∀ i, i < 14 → ∀ j, j < lenS.getD i 0 → Cond.eq (.elem (.field (tmS i) "java/lang/String" "value" "[B") (.int (Int32.ofNat j))) (.int ((bytS.getD i []).getD j 0)) ∈ LW := by decide +kernel
theorem n_ne0 : ∀ j, j < 14 → 0 ≠ j → Cond.not (Cond.eq (tmS 0) (tmS j)) ∈ LW ∨ Cond.not (Cond.eq (tmS j) (tmS 0)) ∈ LW := by decide +kernel
theorem n_ne1 : ∀ j, j < 14 → 1 ≠ j → Cond.not (Cond.eq (tmS 1) (tmS j)) ∈ LW ∨ Cond.not (Cond.eq (tmS j) (tmS 1)) ∈ LW := by decide +kernel
theorem n_ne2 : ∀ j, j < 14 → 2 ≠ j → Cond.not (Cond.eq (tmS 2) (tmS j)) ∈ LW ∨ Cond.not (Cond.eq (tmS j) (tmS 2)) ∈ LW := by decide +kernel
theorem n_ne3 : ∀ j, j < 14 → 3 ≠ j → Cond.not (Cond.eq (tmS 3) (tmS j)) ∈ LW ∨ Cond.not (Cond.eq (tmS j) (tmS 3)) ∈ LW := by decide +kernel
theorem n_ne4 : ∀ j, j < 14 → 4 ≠ j → Cond.not (Cond.eq (tmS 4) (tmS j)) ∈ LW ∨ Cond.not (Cond.eq (tmS j) (tmS 4)) ∈ LW := by decide +kernel
theorem n_ne5 : ∀ j, j < 14 → 5 ≠ j → Cond.not (Cond.eq (tmS 5) (tmS j)) ∈ LW ∨ Cond.not (Cond.eq (tmS j) (tmS 5)) ∈ LW := by decide +kernel
theorem n_ne6 : ∀ j, j < 14 → 6 ≠ j → Cond.not (Cond.eq (tmS 6) (tmS j)) ∈ LW ∨ Cond.not (Cond.eq (tmS j) (tmS 6)) ∈ LW := by decide +kernel
theorem n_ne7 : ∀ j, j < 14 → 7 ≠ j → Cond.not (Cond.eq (tmS 7) (tmS j)) ∈ LW ∨ Cond.not (Cond.eq (tmS j) (tmS 7)) ∈ LW := by decide +kernel
theorem n_ne8 : ∀ j, j < 14 → 8 ≠ j → Cond.not (Cond.eq (tmS 8) (tmS j)) ∈ LW ∨ Cond.not (Cond.eq (tmS j) (tmS 8)) ∈ LW := by decide +kernel
theorem n_ne9 : ∀ j, j < 14 → 9 ≠ j → Cond.not (Cond.eq (tmS 9) (tmS j)) ∈ LW ∨ Cond.not (Cond.eq (tmS j) (tmS 9)) ∈ LW := by decide +kernel
theorem n_ne10 : ∀ j, j < 14 → 10 ≠ j → Cond.not (Cond.eq (tmS 10) (tmS j)) ∈ LW ∨ Cond.not (Cond.eq (tmS j) (tmS 10)) ∈ LW := by decide +kernel
theorem n_ne11 : ∀ j, j < 14 → 11 ≠ j → Cond.not (Cond.eq (tmS 11) (tmS j)) ∈ LW ∨ Cond.not (Cond.eq (tmS j) (tmS 11)) ∈ LW := by decide +kernel
theorem n_ne12 : ∀ j, j < 14 → 12 ≠ j → Cond.not (Cond.eq (tmS 12) (tmS j)) ∈ LW ∨ Cond.not (Cond.eq (tmS j) (tmS 12)) ∈ LW := by decide +kernel
theorem n_ne13 : ∀ j, j < 14 → 13 ≠ j → Cond.not (Cond.eq (tmS 13) (tmS j)) ∈ LW ∨ Cond.not (Cond.eq (tmS j) (tmS 13)) ∈ LW := by decide +kernel
theorem n_ne : ∀ i, i < 14 → ∀ j, j < 14 → i ≠ j → Cond.not (Cond.eq (tmS i) (tmS j)) ∈ LW ∨ Cond.not (Cond.eq (tmS j) (tmS i)) ∈ LW := fun i hi => match i, hi with
  | 0, _ => n_ne0
  | 1, _ => n_ne1
  | 2, _ => n_ne2
  | 3, _ => n_ne3
  | 4, _ => n_ne4
  | 5, _ => n_ne5
  | 6, _ => n_ne6
  | 7, _ => n_ne7
  | 8, _ => n_ne8
  | 9, _ => n_ne9
  | 10, _ => n_ne10
  | 11, _ => n_ne11
  | 12, _ => n_ne12
  | 13, _ => n_ne13
  | n + 14, h => absurd h (by omega)
theorem n_dr : Cond.arrayOf (.static "FindTree" "DOT" "[C") .char ∈ LW ∧ Cond.eq (.length (.static "FindTree" "DOT" "[C")) (.int 1) ∈ LW ∧ Cond.eq (.elem (.static "FindTree" "DOT" "[C") (.int 0)) (.int 46) ∈ LW ∧ Cond.eq (.static "java/lang/String" "COMPACT_STRINGS" "Z") (.int 1) ∈ LW := by decide +kernel
theorem n_rf : Cond.isRef (.static "jdk/internal/util/Preconditions" "SIOOBE_FORMATTER" "Ljava/util/function/BiFunction;") ∈ LW ∧ Cond.isRef (.static Jvm.Bundle.tN "UNASSIGNED_STACK" Jvm.Bundle.steD) ∈ LW ∧ Cond.isRef (.static Jvm.Bundle.tN "SUPPRESSED_SENTINEL" Jvm.Bundle.listD) ∈ LW := by decide +kernel
theorem n_ls : Cond.laysStatic "FindTree" "DOT" "[C" ∈ lw_tbl ∧ Cond.laysStatic "java/lang/String" "COMPACT_STRINGS" "Z" ∈ lw_tbl ∧ Cond.laysStatic "jdk/internal/util/Preconditions" "SIOOBE_FORMATTER" "Ljava/util/function/BiFunction;" ∈ lw_tbl ∧ Cond.laysStatic Jvm.Bundle.tN "UNASSIGNED_STACK" Jvm.Bundle.steD ∈ lw_tbl ∧ Cond.laysStatic Jvm.Bundle.tN "SUPPRESSED_SENTINEL" Jvm.Bundle.listD ∈ lw_tbl := by decide +kernel
theorem n_in : Cond.initialized "FindTree" ∈ lw_tbl ∧ Cond.initialized "java/lang/String" ∈ lw_tbl ∧ Cond.initialized "jdk/internal/util/Preconditions" ∈ lw_tbl ∧ Cond.initialized Jvm.Bundle.tN ∈ lw_tbl := by decide +kernel
theorem n_xw : ∀ w ∈ xW, w ∈ lw_tbl ∧ w.onTables = true := by decide +kernel
theorem n_nest : ∀ q ∈ nestL, Cond.methodLinkNest (RRc q.1) q.2.1 q.2.2 RX10 ∈ lw_tbl := by decide +kernel
theorem n_ao : Cond.arrayOver (.object RX5) ∈ lw_tbl ∧ Cond.arrayOver (.object RX0) ∈ lw_tbl := by decide +kernel
theorem n_sr : ∀ q ∈ sRf, Cond.stringRef (RRc q.1) q.2.1 (sTx.getD (q.2.2 - 1) "") ∈ lw_tbl := by decide +kernel
theorem n_tm : ∀ q ∈ sRf, tmS (q.2.2 - 1) = .string (RRc q.1) q.2.1 ∨ Cond.eq (tmS (q.2.2 - 1)) (.string (RRc q.1) q.2.1) ∈ LW ∨ Cond.eq (.string (RRc q.1) q.2.1) (tmS (q.2.2 - 1)) ∈ LW := by decide +kernel
theorem n_ix : ∀ q ∈ sRf, 1 ≤ q.2.2 ∧ q.2.2 ≤ 14 := by decide +kernel
theorem n_thr : ∀ q ∈ thrM, Cond.stringRef RX10 q.1 q.2 ∈ lw_tbl ∧ Cond.exactly (.string RX10 q.1) "java/lang/String" ∈ LW := by decide +kernel
theorem n_len : ∀ i, i < 14 → lenS.getD i 0 = sLen (i + 1) ∧ lenS.getD i 0 < 2 ^ 31 := by decide +kernel
theorem getD_m : ∀ (l : List Int) (j : Nat), (l.map Int32.ofInt).getD j 0 = Int32.ofInt (l.getD j 0)
  | [], j => by
    show (0 : Int32) = Int32.ofInt 0
    decide
  | a :: l, 0 => rfl
  | a :: l, j + 1 => by
    have := getD_m l j
    simpa using this
theorem n_byt (i j : Nat) (hi : i < 14) : (bytS.getD i []).getD j 0 = Int32.ofInt (sBy (i + 1) j) := by
  unfold bytS sBy
  have e : (sTxt.map (fun l => l.map Int32.ofInt)).getD i [] = (sTxt.getD i []).map Int32.ofInt := by
    rw [List.getD_eq_getElem?_getD, List.getD_eq_getElem?_getD, List.getElem?_map]
    cases sTxt[i]? <;> rfl
  rw [e, show i + 1 - 1 = i from rfl]
  exact getD_m _ _
/-- what the script and DOT are in the small machine -/
def hS0 (sz b L dot : Nat) (xs : Nat → Int32) : mH := (sz, fun a => if a = b then some (50, L) else if a = dot then some (51, 1) else none, fun a j => if a = b then (xs j).toInt else if a = dot then 46 else 0, fun _ _ => none, fun _ _ => 0)
def gS (dot : Nat) (adK adV : Nat → Nat) : Nat → Nat := fun i => if i = 0 then dot else if i ≤ 14 then adK (i - 1) else adV (i - 101)
theorem aot_of {s : State} {cA comp : ClassId} {k : Class} {ty : FieldType} (hk : s.vm.classes[cA]? = some k) (hkind : k.kind = .array comp ty) : ArrOfT s cA ty := fun n z => ⟨(fun q h => by cases h), k, hk, comp, hkind⟩
theorem start_arr {s : State} {args : Array Value} (hts : ∀ w ∈ lw_tbl, w.before args s = true) : ∀ t, 20 ≤ t → t < 26 → ∃ cA, ArrOfT s cA (ety t) ∧ va_RA s cA (ety t) := by
  intro t h20 h26
  by_cases h24 : t < 24
  · have hw : (Cond.arrayClass (ety t)).before args s = true := hts _ (List.mem_of_getElem? (of_decide_eq_true (c_arr t h24 h20)))
    obtain ⟨cA, k, comp, g1, g2, g3⟩ := Cond.arrayClass_spec hw
    refine ⟨cA, aot_of g2 g3, ?_⟩
    rcases (show t = 20 ∨ t = 21 ∨ t = 22 ∨ t = 23 by omega) with rfl | rfl | rfl | rfl <;> exact g1
  · rcases (show t = 24 ∨ t = 25 by omega) with rfl | rfl
    · obtain ⟨comp, cA, k, g1, -, g2, g3, g4⟩ := Cond.arrayOver_spec (hts _ n_ao.1)
      exact ⟨cA, aot_of g2 g3, k, comp, g2, g3, g1, g4⟩
    · obtain ⟨comp, cA, k, g1, -, g2, g3, g4⟩ := Cond.arrayOver_spec (hts _ n_ao.2)
      exact ⟨cA, aot_of g2 g3, k, comp, g2, g3, g1, g4⟩
theorem start_cls {s : State} {args : Array Value} (hts : ∀ w ∈ WS, w.before args s = true) : ∀ t, t < 12 → ∃ q : ClassId × (Nat → Nat), u_Kn s (RRc t) (TTc t) (NFc t) q.1 q.2 := by
  intro t ht
  obtain ⟨cC, iS, h⟩ := u_known hts (c_in ht) (hts _ (ws_at (c_ins t ht).1 rfl))
  exact ⟨(cC, iS), h⟩
set_option maxHeartbeats 4000000 in
theorem start_kf {s : State} {b L : Nat} {xs : Nat → Int32} (hts : ∀ w ∈ lw_tbl, w.before #[Value.ref b] s = true) (hX : va_X b L xs s s.heap) (hbl : b < s.heap.size) (hL : L ≤ 3072) (hgv : (Jvm.Cond.and given_1 narrow_1).before #[Value.ref b] s = true) :
    ∃ D : mD, dB D = s.heap.size ∧ KF D (KXo D) s ∧ Rel D (d0 D) s.heap ∧ dH D = s.heap ∧ hty (d0 D) b = some (50, L) ∧ (∀ j, hvi (d0 D) b j = (xs j).toInt) ∧ hty (d0 D) (dG D 0) = some (51, 1) ∧ hvi (d0 D) (dG D 0) 0 = 46 ∧ hsz (d0 D) = s.heap.size ∧ ∀ a, hty (d0 D) a = none ∨ hty (d0 D) a = some (50, L) ∨ hty (d0 D) a = some (51, 1) := by
  have hLW : ∀ w ∈ LW, w.before #[Value.ref b] s = true := flat_of_before _ hgv
  have hws : ∀ w ∈ WS, w.before #[Value.ref b] s = true := fun w hw => hts w (ws_in w hw)
  have hA : ∀ a : Nat, a < s.heap.size → ¬ (fun q : Nat => s.heap.size ≤ q) a := fun a ha q => Nat.not_le.mpr ha q
  obtain ⟨dot, hdot, hTd⟩ := va_Tof (A := fun q : Nat => s.heap.size ≤ q) (N := 1) (f := fun _ => .int 46) (by decide) (hLW _ n_dr.1) (va_eqt (hLW _ n_dr.2.1)) (fun j hj => by
    have : j = 0 := by omega
    subst this
    exact va_eqt (hLW _ n_dr.2.2.1)) hA
  obtain ⟨adK, adV, hSt, hEv⟩ := vk_Sof (A := fun q : Nat => s.heap.size ≤ q) (N := 14) (tm := tmS) (len := lenS) (byt := bytS) (fun i hi => (n_len i hi).2) (fun i hi => hLW _ (n_ex i hi)) (fun i hi => hLW _ (n_co i hi)) (fun i hi => hLW _ (n_ar i hi)) (fun i hi => hLW _ (n_le i hi)) (fun i hi j hj => hLW _ (n_el i hi j hj)) (fun i j hi hj hne => (n_ne i hi j hj hne).elim (fun q => Or.inl (hLW _ q)) (fun q => Or.inr (hLW _ q))) hA
  have hc0 : ∀ t, ∃ q : ClassId × (Nat → Nat), t < 12 → u_Kn s (RRc t) (TTc t) (NFc t) q.1 q.2 := fun t => by
    by_cases ht : t < 12
    · obtain ⟨q, hq⟩ := start_cls hws t ht
      exact ⟨q, fun _ => hq⟩
    · exact ⟨(0, fun _ => 0), fun h => absurd h ht⟩
  have ha0 : ∀ t, ∃ q : ClassId, 20 ≤ t → t < 26 → ArrOfT s q (ety t) ∧ va_RA s q (ety t) := fun t => by
    by_cases ht : 20 ≤ t ∧ t < 26
    · obtain ⟨q, hq⟩ := start_arr hts t ht.1 ht.2
      exact ⟨q, fun _ _ => hq⟩
    · exact ⟨0, fun h1 h2 => absurd ⟨h1, h2⟩ ht⟩
  obtain ⟨fc, hfc⟩ := Classical.axiomOfChoice hc0
  obtain ⟨fa, hfa⟩ := Classical.axiomOfChoice ha0
  have hbd : b ≠ dot := by
    intro q
    subst q
    obtain ⟨c1, g1, ⟨-, k1, g2, m1, g3⟩, -⟩ := hX
    obtain ⟨c2, e1, ⟨-, k2, e2, m2, e3⟩, -⟩ := hTd
    cases Option.some.inj (g1.symm.trans e1)
    cases Option.some.inj (g2.symm.trans e2)
    rw [g3] at e3
    cases e3
  have hdl : dot < s.heap.size := by
    obtain ⟨c2, e1, -⟩ := hTd
    exact (Array.getElem?_eq_some_iff.mp e1).1
  refine ⟨(fun t => (fc t).1, fun t => (fc t).2, fa, s.heap.size, s.heap, hS0 s.heap.size b L dot xs, gS dot adK adV), rfl, ?_, ?_, rfl, ?_, ?_, ?_, ?_, rfl, ?_⟩
  · refine ⟨fun t ht => hfc t ht, fun t h1 h2 => hfa t h1 h2, ?_, va_Zref (hts _ n_ls.1) (hts _ n_in.1) hdot hA, va_Zof (hts _ n_ls.2.1) (hts _ n_in.2.1) (va_eqi (hLW _ n_dr.2.2.2)) hA, va_Zqof (hts _ n_ls.2.2.1) (hts _ n_in.2.2.1) (hLW _ n_rf.1) hA, fun q hq => ?_, ⟨va_AO.of (hts _ n_ao.1), va_AO.of (hts _ n_ao.2)⟩, fun q hq => va_Nw.of rfl (hts _ (n_nest q hq)), fun i h1 h2 => ?_, fun w hw => va_Nw.of (n_xw w hw).2 (hts _ (n_xw w hw).1), vx_Zqof (hts _ n_ls.2.2.2.1) (hts _ n_in.2.2.2) (hLW _ n_rf.2.1) hA, vx_Zqof (hts _ n_ls.2.2.2.2) (hts _ n_in.2.2.2) (hLW _ n_rf.2.2) hA, fun q hq => ?_⟩
    · intro a t n ha ht
      have ht : (if a = b then some (50, L) else if a = dot then some (51, 1) else none) = some (t, n) := ht
      by_cases hab : a = b
      · rw [if_pos hab] at ht
        cases ht
        subst hab
        obtain ⟨c1, g1, g2, g3, g4, g5⟩ := hX
        refine ⟨Or.inl rfl, by omega, fun q => by omega, c1, g1, g2, g3, by omega, by rw [g4], fun j hj => ?_⟩
        rw [g5 j hj]
        show some (Value.int (xs j)) = some (Value.int (Int32.ofInt (if a = a then (xs j).toInt else _)))
        rw [if_pos rfl, i32_of]
      · rw [if_neg hab] at ht
        by_cases had : a = dot
        · rw [if_pos had] at ht
          cases ht
          subst had
          obtain ⟨c1, g1, g2, g3, g4, g5, g6, -⟩ := hTd
          have hv : ∀ j, hvi (hS0 s.heap.size b L a xs) a j = 46 := fun j => by
            show (if a = b then (xs j).toInt else if a = a then 46 else 0) = 46
            rw [if_neg hab, if_pos rfl]
          refine ⟨Or.inr (Or.inl rfl), by decide, fun q j hj => ?_, c1, g1, g2, g3, g4, g5, fun j hj => ?_⟩
          · show 0 ≤ hvi (hS0 s.heap.size b L a xs) a j ∧ hvi (hS0 s.heap.size b L a xs) a j < 65536
            rw [hv]; decide
          · show _ = some (Value.int (Int32.ofInt (hvi (hS0 s.heap.size b L a xs) a j)))
            rw [hv, g6 j hj]; rfl
        · rw [if_neg had] at ht
          cases ht
    · obtain ⟨i1, i2⟩ := n_ix q hq
      have hg : gS dot adK adV q.2.2 = adK (q.2.2 - 1) := by
        unfold gS
        rw [if_neg (by omega), if_pos i2]
      have he := hEv (q.2.2 - 1) (by omega)
      have hev : (Term.string (RRc q.1) q.2.1).eval #[Value.ref b] s none [] s = some (.ref (adK (q.2.2 - 1))) := by
        rcases n_tm q hq with h1 | h1 | h1
        · rw [← h1]; exact he
        · exact va_eqR (hLW _ h1) he
        · exact va_eqv (hLW _ h1) he
      show vk_R (RRc q.1) q.2.1 (sTx.getD (q.2.2 - 1) "") (gS dot adK adV q.2.2) s
      rw [hg]
      exact vk_R.of (hts _ (n_sr q hq)) hev
    · obtain ⟨g1, g2, g3, g4⟩ := hSt.1 (i - 1) (by omega)
      have e1 : gS dot adK adV i = adK (i - 1) := by
        unfold gS
        rw [if_neg (by omega), if_pos h2]
      have e2 : gS dot adK adV (100 + i) = adV (i - 1) := by
        unfold gS
        rw [if_neg (by omega), if_neg (by omega), show 100 + i - 101 = i - 1 by omega]
      have e3 : (fun j => Value.int ((bytS.getD (i - 1) []).getD j 0)) = fun j => Value.int (Int32.ofInt (sBy i j)) := by
        funext j
        rw [n_byt (i - 1) j (by omega), show i - 1 + 1 = i by omega]
      rw [e3, (n_len (i - 1) (by omega)).1, show i - 1 + 1 = i by omega] at g4
      show va_O RJ0 (gS dot adK adV i) _ s s.heap ∧ va_OF RJ0 "coder" "B" (.int 0) (gS dot adK adV i) _ s s.heap ∧ va_OF RJ0 "value" "[B" (.ref (gS dot adK adV (100 + i))) (gS dot adK adV i) _ s s.heap ∧ va_T .byte (gS dot adK adV (100 + i)) (sLen i) (fun j => .int (Int32.ofInt (sBy i j))) _ s s.heap
      rw [e1, e2]
      exact ⟨g1, g2, g3, g4⟩
    · obtain ⟨t1, t2⟩ := n_thr q hq
      obtain ⟨a, c9, cell, k9, z1, -⟩ := Cond.exactly_spec (hLW _ t2)
      exact ⟨a, vk_R.of (hts _ t1) z1⟩
  · refine ⟨rfl, Nat.le_refl _, fun a j => ?_, fun a j => (show inL 0 from ⟨by decide, by decide⟩), fun q _ => rfl, fun a _ => ⟨rfl, fun j => ⟨rfl, rfl⟩⟩, fun a ha => ?_, fun a t n ha ht => ?_⟩
    · show inR (if a = b then (xs j).toInt else if a = dot then 46 else 0)
      split
      · exact i32_inR _
      · split
        · exact ⟨by decide, by decide⟩
        · exact inR0
    · have ha : s.heap.size ≤ a := ha
      show (if a = b then some (50, L) else if a = dot then some (51, 1) else none) = none
      rw [if_neg (by omega), if_neg (by omega)]
    · have ha : s.heap.size ≤ a := ha
      have ht : (if a = b then some (50, L) else if a = dot then some (51, 1) else none) = some (t, n) := ht
      rw [if_neg (by omega), if_neg (by omega)] at ht
      cases ht
  · show (if b = b then some (50, L) else _) = _
    rw [if_pos rfl]
  · intro j
    show (if b = b then (xs j).toInt else _) = _
    rw [if_pos rfl]
  · show (if dot = b then some (50, L) else if dot = dot then some (51, 1) else none) = _
    rw [if_neg (fun q => hbd q.symm), if_pos rfl]
  · show (if dot = b then (xs 0).toInt else if dot = dot then 46 else 0) = _
    rw [if_neg (fun q => hbd q.symm), if_pos rfl]
  · intro a
    show (if a = b then some (50, L) else if a = dot then some (51, 1) else none) = none ∨ (if a = b then some (50, L) else if a = dot then some (51, 1) else none) = some (50, L) ∨ (if a = b then some (50, L) else if a = dot then some (51, 1) else none) = some (51, 1)
    by_cases hab : a = b
    · rw [if_pos hab]; exact Or.inr (Or.inl rfl)
    · rw [if_neg hab]
      by_cases had : a = dot
      · rw [if_pos had]; exact Or.inr (Or.inr rfl)
      · rw [if_neg had]; exact Or.inl rfl
/-- THE LAW, out of the small machine's run of it -/
theorem whole_of {p : Program} {e : Env} {s : State} {m : MethodId} {below : List Frame} {meth : Method} {c : Code} (l : Launch) (hst : l.stackTraces = false) {b L : Nat} {xs : Nat → Int32} (hL : L ≤ 3072) (C0 : lw_At p s m meth c b L xs)
    (hrun : ∀ (G : Nat → Nat) (h : mH), hty h b = some (50, L) → (∀ j, hvi h b j = (xs j).toInt) → hty h (G 0) = some (51, 1) → hvi h (G 0) 0 = 46 → (∀ a, hsz h ≤ a → hty h a = none) → (∀ a, hty h a = none ∨ hty h a = some (50, L) ∨ hty h a = some (51, 1)) → wp G 1000 161 0 [some (.inr (.inl (some b))), none, none, none, none, none, none] [] h 601024 7293034 (fun v _ => v = some (.inl 1)) (fun _ _ => False)) :
    W p l e room_1 s m #[Value.ref b] below meth c s.heap [] 0 0 (lw_Z below #[Value.ref b] s) (entryFrame m ([Value.ref b] : List Value).toArray 7) := by
  obtain ⟨hx, hb, hr, hml, hown, hts, hX, hbl, hlocks, hgv⟩ := C0
  obtain ⟨D, hdB, hkf, hrel, hdH, q1, q2, q3, q4, q5, q6⟩ := start_kf hts hX hbl hL hgv
  have hwp := hrun (dG D) (d0 D) q1 q2 q3 q4 (fun a ha => hrel.2.2.2.2.2.2.1 a ha) q6
  have hsim := sim (KX := KXo D) KXo.warm (catch_ok D) (throw_ok D) ok_tab nl_tab hwp
  have hent := lv_entry ([.ref b]) (n := 7) (Nat.le_of_ble_eq_true rfl)
  rw [lg_entry_eq]
  have hC : Cx D (KXo D) 161 p l s m #[Value.ref b] meth c := ⟨hx, hb, hml, hown, fun w hw => hts w (ws_in w hw), hlocks, hr, fun q => absurd q (by decide), Or.inl rfl, hst, hkf, by decide, by rw [hdB]; exact Nat.le_refl _, fun q _ => by rw [hdH]⟩
  have hok : okL [some (.inr (.inl (some b))), none, none, none, none, none, none] ((lg_sl ([.ref b]) ++ List.replicate (7 - (lg_sl ([.ref b])).length) Slot.unset).toArray) 7 := okL_ent (n := 7) (as := [.inr (.inl (some b))]) (show 1 ≤ 7 by decide) (fun w hw => by rw [List.mem_singleton.mp hw]; exact ⟨trivial, rfl⟩)
  have hW := hsim p l e room_1 s m #[Value.ref b] below meth c s.heap [] 0 0 _ hC hrel hok (fun v hv => nomatch hv) ⟨by decide, by decide⟩ (by decide) (by decide) (fun z hz => nomatch hz)
  intro T hT X9
  obtain ⟨t, u1, o, u2, u3, u4⟩ := hW T hT X9
  refine ⟨t, u1, o, u2, u3, ?_⟩
  rcases u4 with ⟨⟨v, h', ho, hv, -, -⟩, Ls, ⟨hF1, hF2, hF3⟩, hLs⟩ | ⟨q, -, E, ce, Ls, ⟨x', h', -, -, hx', -⟩, -⟩
  · subst hv
    refine ⟨ho, hF1, hF2, hF3.weaken (fun y hy hlt => ?_) (Nat.le_refl _) (Nat.le_refl _)⟩
    have := hLs y hy
    have h9 : dB D ≤ y.base := this
    rw [hdB] at h9
    exact absurd hlt (Nat.not_lt.mpr h9)
  · exact hx'.elim
