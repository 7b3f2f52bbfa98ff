/-! NEW PLACES -/
def npW (L : List Int) (k : Nat) : List Int := (L.drop (wS L k)).take (lS L k - wS L k)
def npD (T : aT) (here : Nat) (L : List Int) (k : Nat) : Int := if lS L k = wS L k then (here : Int) else (wkR T true here (npW L k)).1
def npR (T : aT) (L : List Int) (k : Nat) (fn : Bool) (z : Int) : Int :=
  if z < 0 then z else if ¬ tK T z.toNat = 0 then -3 else if bAnd (tB T z.toNat) 2 = 0 ∨ bAnd (tB T z.toNat) 1 = 0 then -4
  else if ¬ lkE (nmL L k) (tE T z.toNat) = none then -7 else if 12 ≤ (tE T z.toNat).length ∨ (fn = true ∧ 48 ≤ cnt T 48) then -8 else z
def npl (T : aT) (here : Nat) (L : List Int) (k : Nat) (fn : Bool) : Int :=
  if ¬ k < (wds L).length then -2 else if isNm (nmL L k) = false then -6 else npR T L k fn (npD T here L k)
theorem npW_len (L : List Int) (k : Nat) : (npW L k).length = lS L k - wS L k := by
  have := lE_b L k
  simp [npW]; omega
theorem npW_get {L : List Int} {k i : Nat} (h : i < lS L k - wS L k) : lf (npW L k) i = lf L (wS L k + i) := by
  simp [lf, npW, List.getElem?_take, h]
theorem npW_b {L : List Int} (b : bd L) (k : Nat) : bd (npW L k) := fun c hc => b c (List.mem_of_mem_drop (List.mem_of_mem_take hc))
theorem nmL_b {L : List Int} (b : bd L) (k : Nat) : bd (nmL L k) := fun c hc => b c (List.mem_of_mem_drop (List.mem_of_mem_take hc))
/-- a way's end: a fault or a node -/
theorem wk_res {T : aT} {fol : Bool} (hW : wfW T) : ∀ (f nd lk : Nat) (cm : aC) (w : List Int), nd < 48 → (wk T fol f nd lk cm w).1 < 0 ∨ ∃ n : Nat, n < 48 ∧ (wk T fol f nd lk cm w).1 = (n : Int) := by
  intro f
  induction f with
  | zero => intro nd lk cm w _; left; simp [wk]
  | succ f ih =>
    intro nd lk cm w hnd
    simp only [wk]
    split
    · split
      · left; decide
      · right; exact ⟨nd, hnd, rfl⟩
    · cases hs : stp T fol nd lk (dsl w) with
      | inl z => left; exact stp_neg hs
      | inr q =>
        refine ih q.1 q.2.1 q.2.2.1 q.2.2.2 ?_
        unfold stp at hs
        cases hT : T nd with
        | none => simp [tK, hT] at hs
        | some v =>
          have hwv := hW nd v hnd hT
          split at hs
          · cases hs
          split at hs
          · cases hs
          split at hs
          · cases hs; exact hnd
          split at hs
          · cases hs; simpa [tA, hT] using hwv.2.1
          split at hs
          · cases hs
          · rename_i n hn
            have hE : tE T nd = nE v := by simp [tE, hT]
            rw [hE] at hn
            split at hs
            · split at hs
              · cases hs
              · cases hs; show (if _ then _ else _) < 48; split <;> omega
            · cases hs
              sorry
