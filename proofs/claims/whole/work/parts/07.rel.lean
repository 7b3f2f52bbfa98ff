/-! THE SMALL MACHINE'S HEAP AND THE JVM'S -/
abbrev mD : Type := (Nat → ClassId) × (Nat → Nat → Nat) × (Nat → ClassId) × Nat × Heap × mH × (Nat → Nat)
def dC (D : mD) : Nat → ClassId := D.1
def dI (D : mD) : Nat → Nat → Nat := D.2.1
def dA (D : mD) : Nat → ClassId := D.2.2.1
def dB (D : mD) : Nat := D.2.2.2.1
def dH (D : mD) : Heap := D.2.2.2.2.1
def d0 (D : mD) : mH := D.2.2.2.2.2.1
def dG (D : mD) : Nat → Nat := D.2.2.2.2.2.2
def WS : List Cond := lw_tbl.filter goodWord
theorem ws_at {n : Nat} {w : Cond} (h : wAt n w = true) (hg : goodWord w = true) : w ∈ WS := by
  have h1 : lw_tbl[n]? = some w := of_decide_eq_true h
  exact List.mem_filter.mpr ⟨List.mem_of_getElem? h1, hg⟩
theorem ws_in : ∀ w ∈ WS, w ∈ lw_tbl := fun w h => (List.mem_filter.mp h).1
theorem ws_good : GoodIn WS WS := fun w h => ⟨h, good_of_word (List.mem_filter.mp h).2⟩
def toV : mV → Value
  | .inl z => .int (Int32.ofInt z)
  | .inr (.inl r) => va_rf r
  | .inr (.inr z) => .long (Int64.ofInt z)
def inL (z : Int) : Prop := -9223372036854775808 ≤ z ∧ z ≤ 9223372036854775807
def okV : mV → Prop
  | .inl z => inR z
  | .inr (.inl _) => True
  | .inr (.inr z) => inL z
def okS (st : List mV) : Prop := ∀ v ∈ st, okV v
def lp (ls : List (Option mV)) : List (Nat × Value) := (List.range ls.length).filterMap (fun i => (lget ls i).map fun v => (i, toV v))
def okL (ls : List (Option mV)) (LS : Array Slot) (nL : Nat) : Prop := ls.length = nL ∧ lv_has LS nL (lp ls) ∧ ∀ i v, lget ls i = some v → okV v ∧ (toV v).category = 1
def svO (h : mH) (t a j : Nat) : Value := match fkd (TYc t j) with
  | 1 => va_rf (hvr h a j)
  | _ => .int (Int32.ofInt (hvi h a j))
def svA (h : mH) (t a j : Nat) : Value := if t = 24 ∨ t = 25 then va_rf (hvr h a j) else if t = 23 then .long (Int64.ofInt (hvl h a j)) else .int (Int32.ofInt (hvi h a j))
def CellO (D : mD) (h : mH) (H : Heap) (t a : Nat) : Prop := ∃ cell : Cell, H[a]? = some cell ∧ cell.cls = dC D t ∧ cell.vm = .none ∧ ∀ j, j < NFc t → cell.slots[dI D t j]? = some (svO h t a j)
def CellA (D : mD) (h : mH) (H : Heap) (t n a : Nat) : Prop := ∃ cell : Cell, H[a]? = some cell ∧ cell.cls = dA D t ∧ cell.vm = .none ∧ cell.slots.size = n ∧ ∀ j, j < n → cell.slots[j]? = some (svA h t a j)
def ChR (h : mH) (t n a : Nat) : Prop := (t = 21 ∨ t = 51) → ∀ j, j < n → 0 ≤ hvi h a j ∧ hvi h a j < 65536
def CellW (D : mD) (h : mH) (H : Heap) (a t n : Nat) : Prop := (t < 12 ∧ n = NFc t ∧ CellO D h H t a) ∨ (20 ≤ t ∧ t < 26 ∧ n ≤ 60000 ∧ CellA D h H t n a ∧ ChR h t n a)
def Rel (D : mD) (h : mH) (H : Heap) : Prop :=
  H.size = hsz h ∧ dB D ≤ hsz h ∧ (∀ a j, inR (hvi h a j)) ∧ (∀ a j, inL (hvl h a j)) ∧
  (∀ q, q < dB D → H[q]? = (dH D)[q]?) ∧
  (∀ a, a < dB D → hty h a = hty (d0 D) a ∧ ∀ j, hvi h a j = hvi (d0 D) a j ∧ hvr h a j = hvr (d0 D) a j) ∧
  (∀ a, hsz h ≤ a → hty h a = none) ∧
  (∀ a t n, dB D ≤ a → hty h a = some (t, n) → CellW D h H a t n)
def Ao (D : mD) : Nat → Prop := fun q => dB D ≤ q
def RoA (D : mD) (U : State) (a t n : Nat) : Prop := (t = 50 ∨ t = 51 ∨ t = 52) ∧ n ≤ 60000 ∧ ChR (d0 D) t n a ∧ ∃ cell : Cell, (dH D)[a]? = some cell ∧ U.isArrayOf cell (ety t) ∧ cell.vm ≠ .unknown ∧ n ≤ cell.slots.size ∧ cell.slots.size.toInt32 = Int32.ofNat n ∧ ∀ j, j < n → cell.slots[j]? = some (.int (Int32.ofInt (hvi (d0 D) a j)))
def RoF (D : mD) (U : State) : Prop := ∀ a t n, a < dB D → hty (d0 D) a = some (t, n) → RoA D U a t n
def StF (D : mD) (U : State) : Prop := ∀ i, 1 ≤ i → i ≤ 14 → va_O RJ0 (dG D i) (Ao D) U (dH D) ∧ va_OF RJ0 "coder" "B" (.int 0) (dG D i) (Ao D) U (dH D) ∧ va_OF RJ0 "value" "[B" (.ref (dG D (100 + i))) (dG D i) (Ao D) U (dH D) ∧ va_T .byte (dG D (100 + i)) (sLen i) (fun j => .int (Int32.ofInt (sBy i j))) (Ao D) U (dH D)
def KF (D : mD) (KX : State → Prop) (U : State) : Prop :=
  (∀ t, t < 12 → u_Kn U (RRc t) (TTc t) (NFc t) (dC D t) (dI D t)) ∧
  (∀ t, 20 ≤ t → t < 26 → ArrOfT U (dA D t) (ety t) ∧ va_RA U (dA D t) (ety t)) ∧
  RoF D U ∧
  va_Z RX10 "DOT" "[C" (.ref (dG D 0)) (Ao D) U (dH D) ∧
  va_Z RJ0 "COMPACT_STRINGS" "Z" (.int 1) (Ao D) U (dH D) ∧
  va_Zq RJ3 "SIOOBE_FORMATTER" "Ljava/util/function/BiFunction;" (Ao D) U (dH D) ∧
  (∀ q ∈ sRf, vk_R (RRc q.1) q.2.1 (sTx.getD (q.2.2 - 1) "") (dG D q.2.2) U) ∧
  (va_AO RX5 U ∧ va_AO RX0 U) ∧
  (∀ q ∈ nestL, va_Nw (.methodLinkNest (RRc q.1) q.2.1 q.2.2 RX10) U) ∧ StF D U ∧ KX U
theorem RoF.moved {D : mD} {u U : State} (hvm : u.vm.Alike U.vm) (h : RoF D u) : RoF D U := by
  intro a t n ha ht
  obtain ⟨h1, h2, h3, cell, h4, h5, h6⟩ := h a t n ha ht
  exact ⟨h1, h2, h3, cell, h4, State.isArrayOf_alike hvm h5, h6⟩
theorem StF.moved {D : mD} {u U : State} (hvm : u.vm.Alike U.vm) (h : StF D u) : StF D U := fun i h1 h2 => ⟨va_O.moved hvm (h i h1 h2).1, va_OF.moved hvm (h i h1 h2).2.1, va_OF.moved hvm (h i h1 h2).2.2.1, va_T.moved hvm (h i h1 h2).2.2.2⟩
theorem KF.warm {D : mD} {KX : State → Prop} (hKX : ∀ s U : State, s.WarmedH U.vm → KX s → KX U) {s U : State} (hW : s.WarmedH U.vm) (h : KF D KX s) : KF D KX U := by
  obtain ⟨h1, h2, h3, h4, h5, h6, h7, h8, h9, h10, h11⟩ := h
  have ha := hW.alike
  exact ⟨fun t ht => u_Kn_moved ha (h1 t ht), fun t h20 h26 => ⟨arrOfT_moved ha (h2 t h20 h26).1, va_RA.moved ha (h2 t h20 h26).2⟩, h3.moved ha, va_Z.moved ha h4, va_Z.moved ha h5, va_Zq.moved ha h6, fun q hq => vk_R.warm hW (h7 q hq), ⟨va_AO.moved ha h8.1, va_AO.moved ha h8.2⟩, fun q hq => va_Nw.warmM hW (h9 q hq), h10.moved ha, hKX _ _ hW h11⟩
/-! numbers -/
theorem i32_toInt {z : Int} (h : inR z) : (Int32.ofInt z).toInt = z := by
  obtain ⟨h1, h2⟩ := h
  exact Int32.toInt_ofInt_of_le (by simpa using h1) (by have : z < 2 ^ 31 := by omega
                                                        simpa using this)
theorem i32_lt {a b : Int} (ha : inR a) (hb : inR b) : Int32.ofInt a < Int32.ofInt b ↔ a < b := by
  rw [Int32.lt_iff_toInt_lt, i32_toInt ha, i32_toInt hb]
theorem i32_le {a b : Int} (ha : inR a) (hb : inR b) : Int32.ofInt a ≤ Int32.ofInt b ↔ a ≤ b := by
  rw [Int32.le_iff_toInt_le, i32_toInt ha, i32_toInt hb]
theorem i32_eq {a b : Int} (ha : inR a) (hb : inR b) : Int32.ofInt a = Int32.ofInt b ↔ a = b :=
  ⟨fun h => by have := congrArg Int32.toInt h; rwa [i32_toInt ha, i32_toInt hb] at this, fun h => by rw [h]⟩
theorem i32_nat {z : Int} (h : inR z) (h0 : 0 ≤ z) : (Int32.ofInt z).toNatClampNeg = z.toNat := by
  show (Int32.ofInt z).toInt.toNat = z.toNat
  rw [i32_toInt h]
theorem i32_neg {z : Int} (h : inR z) : Int32.ofInt z < 0 ↔ z < 0 := by
  have := i32_lt h (show inR 0 from ⟨by decide, by decide⟩)
  exact this
theorem i32_of (x : Int32) : Int32.ofInt x.toInt = x := Int32.ofInt_toInt x
theorem i32_inR (x : Int32) : inR x.toInt := ⟨by have := Int32.le_toInt x; omega, by have := Int32.toInt_lt x; omega⟩
theorem i32_rep (x : Int32) : ∃ z, inR z ∧ x = Int32.ofInt z := ⟨x.toInt, i32_inR x, (i32_of x).symm⟩
theorem inR0 : inR 0 := ⟨by decide, by decide⟩
/-! locals -/
theorem lget_lt {ls : List (Option mV)} {i : Nat} {v : mV} (h : lget ls i = some v) : i < ls.length := by
  induction ls generalizing i with
  | nil => simp [lget] at h
  | cons a l ih =>
    cases i with
    | zero => simp
    | succ n => have := ih (i := n) h; simp; omega
theorem lp_mem {ls : List (Option mV)} {i : Nat} {v : mV} (h : lget ls i = some v) : (i, toV v) ∈ lp ls :=
  List.mem_filterMap.mpr ⟨i, List.mem_range.mpr (lget_lt h), by simp [h]⟩
theorem okL.get {ls : List (Option mV)} {LS : Array Slot} {nL i : Nat} {v : mV} (h : okL ls LS nL) (hv : lget ls i = some v) : LS[i]? = some (.val (toV v)) := h.2.1.2.2 _ (lp_mem hv)
theorem lset_length : ∀ (ls : List (Option mV)) (i : Nat) (v : mV), (lset ls i v).length = ls.length
  | [], _, _ => rfl
  | _ :: _, 0, _ => rfl
  | _ :: l, n + 1, v => by simp [lset, lset_length l n v]
theorem lget_lset : ∀ (ls : List (Option mV)) (i j : Nat) (v : mV), lget (lset ls i v) j = if j = i ∧ i < ls.length then some v else lget ls j
  | [], _, _, _ => by simp [lset, lget]
  | a :: l, 0, 0, v => by simp [lset, lget]
  | a :: l, 0, j + 1, v => by simp [lset, lget]
  | a :: l, i + 1, 0, v => by simp [lset, lget]
  | a :: l, i + 1, j + 1, v => by simp [lset, lget, lget_lset l i j v]
theorem okL.set {ls : List (Option mV)} {LS LS' : Array Slot} {nL i : Nat} {v : mV} (h : okL ls LS nL) (hv : okV v) (hc : (toV v).category = 1) (hi : i < nL)
    (h' : lv_has LS' nL ((i, toV v) :: (lp ls).filter (fun q => !(q.1 == i) && !(q.1 + 1 == i && q.2.category == 2)))) : okL (lset ls i v) LS' nL := by
  obtain ⟨h1, h2, h3⟩ := h
  refine ⟨by rw [lset_length]; exact h1, ⟨h'.1, h'.2.1, fun q hq => ?_⟩, fun j w hj => ?_⟩
  · obtain ⟨j, hj, he⟩ := List.mem_filterMap.mp hq
    rw [lget_lset] at he
    by_cases hji : j = i ∧ i < ls.length
    · rw [if_pos hji] at he
      simp at he
      rw [← he, hji.1]
      exact h'.2.2 _ List.mem_cons_self
    · rw [if_neg hji] at he
      cases hg : lget ls j with
      | none => rw [hg] at he; simp at he
      | some w =>
        rw [hg] at he
        simp at he
        rw [← he]
        refine h'.2.2 _ (List.mem_cons_of_mem _ (List.mem_filter.mpr ⟨lp_mem hg, ?_⟩))
        have hne : j ≠ i := fun e => hji ⟨e, by rw [h1]; exact hi⟩
        have hcat := (h3 j w hg).2
        simp [hne, hcat]
  · rw [lget_lset] at hj
    by_cases hji : j = i ∧ i < ls.length
    · rw [if_pos hji] at hj
      cases hj
      exact ⟨hv, hc⟩
    · rw [if_neg hji] at hj
      exact h3 j w hj
theorem va_rf_cat (r : Option Nat) : (va_rf r).category = 1 := by cases r <;> rfl
theorem toV_I_cat (z : Int) : (toV (.inl z)).category = 1 := rfl
