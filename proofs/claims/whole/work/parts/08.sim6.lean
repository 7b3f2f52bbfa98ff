theorem w_oi : wAt 93 (.instanceMethod objectInit) = true := by decide +kernel
set_option maxRecDepth 100000 in
theorem w_oc : lw_tbl[94]? = some (.code objectInit ⟨#[0xb1]⟩ 1 none) := rfl
theorem w_xs : wAt 138 (.static Lib.Math.max.name) = true := by decide +kernel
theorem w_xi : wAt 67 (.initialized "java/lang/Math") = true := by decide +kernel
set_option maxRecDepth 100000 in
theorem w_xc : lw_tbl[139]? = some (.code Lib.Math.max.name Lib.Math.max.code 2 (some .int)) := rfl
theorem w_an : wAt 439 (.native arraycopyName) = true := by decide +kernel
theorem w_as : wAt 438 (.static arraycopyName) = true := by decide +kernel
theorem w_ai : wAt 81 (.initialized "java/lang/System") = true := by decide +kernel
theorem ws_p {n : Nat} {w : Cond} (h : lw_tbl[n]? = some w) (hg : goodWord w = true) : w ∈ WS := List.mem_filter.mpr ⟨List.mem_of_getElem? h, hg⟩
section Sim
variable {D : mD} {KX : State → Prop} {d k pc nx x : Nat} {y : List Nat} {ls : List (Option mV)} {st : List mV} {h : mH} {bc bs : Nat} {Q : mQ} {X : mX}
variable {p : Program} {l : Launch} {e : Env} {R : Room} {s : State} {m : MethodId} {args : Array Value} {below : List Frame} {meth : Method} {c : Code} {H : Heap} {locs : List Loc} {cells slots : Nat} {LS : Array Slot}
theorem cats_sum : ∀ (r : List mV), ((r.map toV).map fun v => v.category).sum = cats r
  | [] => rfl
  | .inl z :: r => by
    show 1 + ((r.map toV).map fun v => v.category).sum = 1 + cats r
    rw [cats_sum r]
  | .inr (.inl q) :: r => by
    show (va_rf q).category + ((r.map toV).map fun v => v.category).sum = 1 + cats r
    rw [cats_sum r, va_rf_cat]
  | .inr (.inr z) :: r => by
    show 2 + ((r.map toV).map fun v => v.category).sum = 2 + cats r
    rw [cats_sum r]
theorem Cx.sz (hC : Cx D KX k p l s m args meth c) (hL : okL ls LS (mL k)) : LS.size = c.maxLocals := by rw [hC.2.2.1]; exact hL.2.1.1
theorem si_objinit {i : Nat} (ho : okE k pc (.invokespecial i, nx, 1000, []) = true) (hw : wpi (dG D) (simP D KX) (.invokespecial i, nx, 1000, []) d k pc ls st h bc bs Q X) : simP D KX d k pc ls st h bc bs Q X := by
  intro p l e R s m args below meth c H locs cells slots LS hC hr hL hS hR hbc hbs hlo
  obtain ⟨hd, hn⟩ := okE_dec ho (by simp [ilen])
  unfold okE at ho
  simp only [Bool.and_eq_true, Bool.or_eq_true, decide_eq_true_eq] at ho
  obtain ⟨-, -, hl⟩ := ho
  match st, hw, hS with
  | .inr (.inl (some a)) :: r, hw, hS =>
    obtain ⟨hcat, hw⟩ := hw
    refine W.objInit hC.1 hC.2.1 hC.2.2.2.1 (hC.ws hl rfl) (hC.ws w_oi rfl) (hC.2.2.2.2.1 _ (ws_p w_oc rfl)) rfl (hC.sz hL) rfl hd (by have := hR.1; omega) ?_ (go hw hn rfl hC hr hL (okS_t hS) hR hbc hbs hlo)
    show 2 * 0 + ((r.map toV).map fun v => v.category).sum + 12 ≤ R.locals
    rw [cats_sum]
    have := hR.2
    omega
theorem si_mmax {i : Nat} (ho : okE k pc (.invokestatic i, nx, 1002, []) = true) (hw : wpi (dG D) (simP D KX) (.invokestatic i, nx, 1002, []) d k pc ls st h bc bs Q X) : simP D KX d k pc ls st h bc bs Q X := by
  intro p l e R s m args below meth c H locs cells slots LS hC hr hL hS hR hbc hbs hlo
  obtain ⟨hd, hn⟩ := okE_dec ho (by simp [ilen])
  unfold okE at ho
  simp only [Bool.and_eq_true, Bool.or_eq_true, decide_eq_true_eq] at ho
  obtain ⟨-, ho⟩ := ho
  match st, hw, hS with
  | .inl b :: .inl a :: r, hw, hS =>
    obtain ⟨hcat, hw⟩ := hw
    have hbR : inR b := okS_h hS
    have haR : inR a := okS_h (okS_t hS)
    have hl : wAt (posj pM (mC k) i) (.methodLink (RRc (mC k)) i Lib.Math.max.name) = true := by
      rcases ho with ⟨q, -⟩ | ⟨-, q⟩
      · exact absurd q (by decide)
      · exact q
    refine va_mmax hC.1 hC.2.1 (hC.sz hL).symm hC.2.2.2.1 (hC.ws hl rfl) (hC.ws w_xs rfl) (hC.ws w_xi rfl) (hC.2.2.2.2.1 _ (ws_p w_xc rfl)) (by have := hR.1; omega) (by rw [cats_sum]; have := hR.2; omega) (by omega) (by omega) hd ?_
    refine go hw hn ?_ hC hr hL (okS_c (v := .inl _) ?_ (okS_t (okS_t hS))) hR hbc hbs hlo
    · show Value.int (Int32.ofInt (if a < b then b else a)) :: r.map toV = _
      by_cases q : a < b
      · rw [if_pos q, if_pos ((i32_lt haR hbR).mpr q)]
      · rw [if_neg q, if_neg (fun z => q ((i32_lt haR hbR).mp z))]
    · show inR (if a < b then b else a)
      split
      · exact hbR
      · exact haR
theorem sp_at {at_ : Nat} : ∀ (vs : List Value) (c : Cell) (i j : Nat), at_ + i + vs.length ≤ c.slots.size → (c.storePairs at_ (vs.zipIdx i)).slots[j]? = if at_ + i ≤ j ∧ j < at_ + i + vs.length then vs[j - (at_ + i)]? else c.slots[j]?
  | [], c, i, j, h => by
    rw [if_neg (by simp only [List.length_nil]; omega)]
    rfl
  | v :: vs, c, i, j, h => by
    rw [List.zipIdx_cons]
    show ((c.setSlot (at_ + i) v).storePairs at_ (vs.zipIdx (i + 1))).slots[j]? = _
    simp only [List.length_cons] at h ⊢
    rw [sp_at vs (c.setSlot (at_ + i) v) (i + 1) j (by rw [slots_set_size]; omega), slots_set]
    by_cases hj : at_ + i = j
    · subst hj
      rw [if_neg (by omega), if_pos ⟨rfl, by omega⟩, if_pos (by omega)]
      simp
    · have hs1 : (if at_ + i = j ∧ at_ + i < c.slots.size then some v else c.slots[j]?) = c.slots[j]? := if_neg (fun q => hj q.1)
      rw [hs1]
      by_cases h2 : at_ + (i + 1) ≤ j ∧ j < at_ + (i + 1) + vs.length
      · rw [if_pos h2, if_pos (by omega)]
        have e : j - (at_ + i) = (j - (at_ + (i + 1))) + 1 := by omega
        rw [e]
        rfl
      · rw [if_neg h2, if_neg (by omega)]
theorem cp_at {cs cd : Cell} {sp dp n j : Nat} (h5 : dp + n ≤ cd.slots.size) : (cd.storeRun dp (cs.stretch sp n)).slots[j]? = if dp ≤ j ∧ j < dp + n then some (cs.slots.getD (sp + (j - dp)) .null) else cd.slots[j]? := by
  have hl : (cs.stretch sp n).length = n := by simp [Cell.stretch]
  unfold Cell.storeRun
  rw [sp_at (cs.stretch sp n) cd 0 j (by rw [hl]; omega), hl]
  simp only [Nat.add_zero]
  by_cases h : dp ≤ j ∧ j < dp + n
  · rw [if_pos h, if_pos h]
    unfold Cell.stretch
    rw [List.getElem?_map, List.getElem?_range (by omega)]
    rfl
  · rw [if_neg h, if_neg h]
theorem i32_fit {z : Int} (h0 : 0 ≤ z) (h1 : z < 65536) : fits .char (.int (Int32.ofInt z)) = true := by
  have hz : inR z := ⟨by omega, by omega⟩
  have h2 : (0 : Int32) ≤ Int32.ofInt z := (z_ge hz).mpr (by omega)
  have h3 : Int32.ofInt z ≤ 65535 := by
    have : (65535 : Int32) = Int32.ofInt 65535 := by decide
    rw [this, i32_le hz ⟨by decide, by decide⟩]
    omega
  simp [fits, h2, h3]
theorem si_arraycopy {i : Nat} (ho : okE k pc (.invokestatic i, nx, 1001, []) = true) (hw : wpi (dG D) (simP D KX) (.invokestatic i, nx, 1001, []) d k pc ls st h bc bs Q X) : simP D KX d k pc ls st h bc bs Q X := by
  intro p l e R s m args below meth c H locs cells slots LS hC hr hL hS hR hbc hbs hlo
  obtain ⟨hd, hn⟩ := okE_dec ho (by simp [ilen])
  unfold okE at ho
  simp only [Bool.and_eq_true, Bool.or_eq_true, decide_eq_true_eq] at ho
  obtain ⟨-, ho⟩ := ho
  have hl : wAt (posj pM (mC k) i) (.methodLink (RRc (mC k)) i arraycopyName) = true := by
    rcases ho with ⟨-, q⟩ | ⟨q, -⟩
    · exact q
    · exact absurd q (by decide)
  match st, hw, hS with
  | .inl n :: .inl dp :: .inr (.inl (some b)) :: .inl sp :: .inr (.inl (some a)) :: r, hw, hS =>
    have hw2 : (match hty h a, hty h b with
      | some (ta, na), some (tb, nb) => (ta = 21 ∨ ta = 51) ∧ tb = 21 ∧ (0 ≤ sp ∧ 0 ≤ dp ∧ 0 ≤ n ∧ sp + n ≤ na ∧ dp + n ≤ nb) ∧ cats r ≤ 8 ∧ simP D KX d k nx ls r (hcpy h a sp.toNat b dp.toNat n.toNat) bc bs Q X
      | _, _ => False) := hw
    split at hw2
    · rename_i ta na tb nb hta htb
      obtain ⟨hA, hB, ⟨h1, h2, h3, h4, h5⟩, hcat, hv2⟩ := hw2
      subst hB
      have hnR : inR n := okS_h hS
      have hdR : inR dp := okS_h (okS_t hS)
      have hsR : inR sp := okS_h (okS_t (okS_t (okS_t hS)))
      obtain ⟨-, cha, ca, a1, a2, a3, a4, a5, a6⟩ := hr.any hC.kf hta (by rcases hA with rfl | rfl <;> rfl)
      obtain ⟨hB, hn6, ⟨cb, b1, b2, b3, b4, b5⟩, chb⟩ := hr.arr hC.kf htb (by decide) (by decide)
      have harrB : s.isArrayOf cb .char := ⟨fun q => by rw [b3]; exact vm_s q, by rw [b2]; exact ((hC.kf.2.1 21 (by decide) (by decide)).1 0 (fun _ => .null)).2⟩
      have hetA : ety ta = .char := by rcases hA with rfl | rfl <;> rfl
      rw [hetA] at a2
      obtain ⟨o1, k1, hk1, cm1, hkk1⟩ := a2
      obtain ⟨o2, k2, hk2, cm2, hkk2⟩ := harrB
      have en : (Int32.ofInt n).toNatClampNeg = n.toNat := i32_nat hnR h3
      have ed : (Int32.ofInt dp).toNatClampNeg = dp.toNat := i32_nat hdR h2
      have es : (Int32.ofInt sp).toNatClampNeg = sp.toNat := i32_nat hsR h1
      have hget : ∀ j, j < na → ca.slots.getD j .null = .int (Int32.ofInt (hvi h a j)) := fun j hj => by
        have hsv : svA h ta a j = .int (Int32.ofInt (hvi h a j)) := by rcases hA with rfl | rfl <;> rfl
        rw [Array.getD_eq_getD_getElem?, a6 j hj, hsv]
        rfl
      intro T hT X
      obtain ⟨vm', X', step⟩ := X.arraycopy hC.1 hC.2.2.2.1 (hC.ws hl rfl) (hC.ws w_an rfl) (hC.ws w_as rfl) (hC.ws w_ai rfl) (src := a) (dst := b) (cs := ca) (cd := cb) (srcPos := Int32.ofInt sp) (destPos := Int32.ofInt dp) (n := Int32.ofInt n) (by rw [hT]; exact a1) (by rw [hT]; exact b1)
        o1 o2 a3 (by rw [b3]; exact vm_u) hk1 hk2 hkk1 hkk2 (by decide) (by rw [z_lt hsR]; omega) (by rw [z_lt hdR]; omega) (by rw [z_lt hnR]; omega)
        (by rw [i32_toInt hsR, i32_toInt hnR]; omega) (by rw [i32_toInt hdR, i32_toInt hnR]; omega)
        (fun vm₁ _ i hi => by
          rw [en] at hi
          rw [es, hget _ (by omega)]
          have hc := cha (by omega) (sp.toNat + i) (by omega)
          exact ⟨i32_fit hc.1 hc.2, trivial⟩)
        (g := F0 m (pc % 100000) LS ((.inl n :: .inl dp :: .inr (.inl (some b)) :: .inl sp :: .inr (.inl (some a)) :: r : List mV).map toV)) rfl (hC.sz hL) (rest := r.map toV) rfl (by rw [hC.2.1]; exact hd) (by have := hR.1; omega)
        (by show 2 * 0 + ((r.map toV).map fun v => v.category).sum + _ ≤ R.locals
            rw [cats_sum]
            have := hR.2
            have hnf : nativeFrameWords "java/lang/System" "arraycopy" 5 ≤ 300 := by decide
            omega)
      have hheap : ((T.setVm vm').setCell b (copied ca cb (Int32.ofInt sp) (Int32.ofInt dp) (Int32.ofInt n))).heap = H.setIfInBounds b (copied ca cb (Int32.ofInt sp) (Int32.ofInt dp) (Int32.ofInt n)) := by rw [← hT]; rfl
      have hbl : b < H.size := (Array.getElem?_eq_some_iff.mp b1).1
      have hcp : copied ca cb (Int32.ofInt sp) (Int32.ofInt dp) (Int32.ofInt n) = cb.storeRun dp.toNat (ca.stretch sp.toNat n.toNat) := by
        show cb.storeRun (Int32.ofInt dp).toNatClampNeg (ca.stretch (Int32.ofInt sp).toNatClampNeg (Int32.ofInt n).toNatClampNeg) = _
        rw [en, ed, es]
      obtain ⟨f1, f2, f3, -, -⟩ := Cell.storePairs_facts cb dp.toNat (ca.stretch sp.toNat n.toNat).zipIdx
      have hrel : Rel D (hcpy h a sp.toNat b dp.toNat n.toNat) (H.setIfInBounds b (copied ca cb (Int32.ofInt sp) (Int32.ofInt dp) (Int32.ofInt n))) := by
        refine hr.upd hB htb rfl (fun b => rfl) (fun b' hb' j => ?_) (fun b' hb' j => rfl) (fun b' hb' j => rfl) (fun j => ?_) (fun j => hr.2.2.2.1 b j) (by simp) (fun q hq => by simp [Array.getElem?_setIfInBounds, Ne.symm hq]) (Or.inr ⟨by decide, by decide, hn6, ⟨copied ca cb (Int32.ofInt sp) (Int32.ofInt dp) (Int32.ofInt n), by simp [Array.getElem?_setIfInBounds, hbl], ?_, ?_, ?_, fun j hj => ?_⟩, fun q j hj => ?_⟩)
        · rw [hvi_C, if_neg (fun q => hb' q.1)]
        · rw [hvi_C]; split
          · exact hr.2.2.1 a _
          · exact hr.2.2.1 b j
        · rw [hcp]; exact f1.trans b2
        · rw [hcp]; exact f2.trans b3
        · rw [hcp]; exact f3.trans b4
        · rw [hcp, cp_at (by omega)]
          show _ = some (Value.int (Int32.ofInt (hvi (hcpy h a sp.toNat b dp.toNat n.toNat) b j)))
          rw [hvi_C]
          by_cases q : dp.toNat ≤ j ∧ j < dp.toNat + n.toNat
          · rw [if_pos q, if_pos ⟨rfl, q⟩, hget _ (by omega)]
          · rw [if_neg q, if_neg (fun z => q z.2), b5 j hj]
            rfl
        · rw [hvi_C]
          split
          · exact cha (by omega) _ (by omega)
          · exact chb q j hj
      obtain ⟨t, u1, u2⟩ := go hv2 hn rfl hC hrel hL (okS_t (okS_t (okS_t (okS_t (okS_t hS))))) hR hbc hbs (fun z hz => (List.mem_append.mp hz).elim (hlo z) (fun q => by
        obtain ⟨w, -, hw⟩ := List.mem_map.mp q
        rw [← hw]; exact hB)) _ hheap X'
      exact ⟨t, step t u1, u2⟩
    · exact hw2.elim
end Sim
