def thrM : List (Nat × String) := [(70, "the line would be too long"), (88, "the size or the day is out of bounds"), (104, "the day is out of bounds"), (163, "the bits are not 0 to 7"), (185, "the present day is out of bounds"), (218, "there is no such node")]
def xNm : List String := ["java/lang/RuntimeException", "java/lang/Exception"]
def xW : List Cond := [.superclass Jvm.Bundle.tN "java/lang/Object", .castable (eNm 0) (eNm 0), .castable (eNm 1) (eNm 1), .castable (eNm 2) (eNm 2), .declares (Jvm.Bundle.initS "java/lang/RuntimeException"), .declares (Jvm.Bundle.initS "java/lang/Exception"), .declares (Jvm.Bundle.initS Jvm.Bundle.tN)]
theorem xw_on : ∀ w ∈ xW, w.onTables = true := by decide +kernel
def KXo (D : mD) (U : State) : Prop := (∀ w ∈ xW, va_Nw w U) ∧ vx_Zq Jvm.Bundle.tN "UNASSIGNED_STACK" Jvm.Bundle.steD (Ao D) U (dH D) ∧ vx_Zq Jvm.Bundle.tN "SUPPRESSED_SENTINEL" Jvm.Bundle.listD (Ao D) U (dH D) ∧ ∀ q ∈ thrM, ∃ sa, vk_R RX10 q.1 q.2 sa U
theorem sup_moved {a b : String} {s U : State} (hW : s.WarmedH U.vm) (h : va_Nw (.superclass a b) s) : va_Nw (.superclass a b) U := by
  have hvm := hW.alike
  have hc : ∃ c, s.vm.findClass a = some c := by
    have h1 := h
    simp only [va_Nw, Cond.before, Cond.holds, Cond.value] at h1
    cases hq : s.vm.findClass a with
    | none => simp [hq] at h1
    | some c => exact ⟨c, rfl⟩
  obtain ⟨c, hc⟩ := hc
  obtain ⟨p, k, kp, h1, h2, h3, h4, h5, h6, h7⟩ := Cond.superclass_spec hc h
  obtain ⟨k', hk', he⟩ := hvm.2.2 _ _ h2
  obtain ⟨kp', hkp', hep⟩ := hvm.2.2 _ _ h3
  have f1 : U.vm.findClass a = some c := by rw [hvm.findClass]; exact hc
  have f2 : U.vm.findClass b = some p := by rw [hvm.findClass]; exact h1
  have g : (Cond.superclass a b).before #[] s = true := h
  simp only [Cond.before, Cond.holds, Cond.value, hc, h1, h2, h3] at g
  show (Cond.superclass a b).before #[] U = true
  simp only [Cond.before, Cond.holds, Cond.value, f1, f2, hk', hkp']
  rw [he, hep]
  exact g
theorem KXo.warm {D : mD} (s U : State) (hW : s.WarmedH U.vm) (h : KXo D s) : KXo D U := by
  obtain ⟨h1, h2, h3, h4⟩ := h
  refine ⟨fun w hw => ?_, vx_Zq.moved hW.alike h2, vx_Zq.moved hW.alike h3, fun q hq => ?_⟩
  · have hs := h1 w hw
    simp only [xW, List.mem_cons, List.not_mem_nil, or_false] at hw
    rcases hw with rfl | rfl | rfl | rfl | rfl | rfl | rfl
    · exact sup_moved hW hs
    · exact va_Nw.warmC hW hs
    · exact va_Nw.warmC hW hs
    · exact va_Nw.warmC hW hs
    · exact va_Nw.warmD hW hs
    · exact va_Nw.warmD hW hs
    · exact va_Nw.warmD hW hs
  · obtain ⟨sa, hs⟩ := h4 q hq
    exact ⟨sa, vk_R.warm hW hs⟩
theorem catch_ok (D : mD) : CatchP D (KXo D) := by
  intro k p l e R s m args below meth c H locs cells slots LS Qs rp hs he hq ct x rest q ce hC hh h1 h2 h3 hx hlk hce hcv hcl kk
  have htab : c.exceptionTable.toList = tableOf (mHh k) := hC.2.2.2.2.2.2.2.2.1.resolve_left (fun q => by rw [q] at hh; exact absurd ((show mHh 161 = [] from rfl).symm.trans hh) (fun z => by cases z))
  rw [hh] at htab
  have hKX : KXo D s := hC.kf.2.2.2.2.2.2.2.2.2.2
  have hcast : (Cond.castable (eNm x) (eNm x)).before args s = true := by
    refine va_Nw.use rfl (hKX.1 _ ?_)
    match x, hx with
    | 0, _ => exact List.mem_cons_of_mem _ List.mem_cons_self
    | 1, _ => exact List.mem_cons_of_mem _ (List.mem_cons_of_mem _ List.mem_cons_self)
    | 2, _ => exact List.mem_cons_of_mem _ (List.mem_cons_of_mem _ (List.mem_cons_of_mem _ List.mem_cons_self))
    | n + 3, h => exact absurd h (by omega)
  exact vx_catch (own := RRc (mC k)) (name := eNm x) (E := eNm x) hC.2.2.2.1 [] ⟨hs, he, hq, ct⟩ [] htab (fun z hz => nomatch hz) (by simp [covers]; omega) h3 hlk hcast hce hcv hcl kk
theorem thw_72 : ∀ w ∈ (vx_atS RX10 72 (eNm 0) xNm).filter goodWord, w ∈ lw_tbl := by decide +kernel
theorem thn_72 : ∀ w ∈ (vx_atS RX10 72 (eNm 0) xNm).filter (fun w => !goodWord w), w ∈ xW := by decide +kernel
theorem thw_90 : ∀ w ∈ (vx_atS RX10 90 (eNm 1) xNm).filter goodWord, w ∈ lw_tbl := by decide +kernel
theorem thn_90 : ∀ w ∈ (vx_atS RX10 90 (eNm 1) xNm).filter (fun w => !goodWord w), w ∈ xW := by decide +kernel
theorem thw_220 : ∀ w ∈ (vx_atS RX10 220 (eNm 2) xNm).filter goodWord, w ∈ lw_tbl := by decide +kernel
theorem thn_220 : ∀ w ∈ (vx_atS RX10 220 (eNm 2) xNm).filter (fun w => !goodWord w), w ∈ xW := by decide +kernel
set_option maxRecDepth 100000 in
theorem thr_70 {D : mD} {d nx i : Nat} {ls : List (Option mV)} {st : List mV} {h : mH} {bc bs : Nat} {Q : mQ} {X : mX} (hb : 1 ≤ bc ∧ 6 ≤ bs) (hcat : cats st ≤ 8) (hX : ∀ z, hsz h ≤ z → X 0 (hgrow h z)) {pc : Nat} (hpc : pc % 100000 = 43) : simP D (KXo D) d 70 pc ls st h bc bs Q X := by
  intro p l e R s m args below meth c H locs cells slots LS hC hr hL hS hR hbc hbs hlo
  rw [hpc]
  have hKX : KXo D s := hC.kf.2.2.2.2.2.2.2.2.2.2
  obtain ⟨sa, hstr⟩ := hKX.2.2.2 (70, "the line would be too long") (by decide)
  have hts := hC.2.2.2.2.1
  have hat : ∀ w ∈ vx_atS RX10 72 (eNm 0) xNm, w.before args s = true := vx_hat (B := xW) (fun w hw => hts w (List.mem_filter.mpr ⟨thw_72 w hw, (List.mem_filter.mp hw).2⟩)) thn_72 (fun w hw => va_Nw.use (xw_on w hw) (hKX.1 w hw))
  intro T hT X9
  obtain ⟨f1, f2⟩ := vx_frame (U := T) (k := cells) (n := slots) X9.same
  have hbase := hC.2.2.2.2.2.2.2.2.2.2.2.2
  have hS9 : va_S (Ao D) s.heap H locs := ⟨by rw [← hT]; exact f1, fun q hq hA => by rw [← hT]; exact f2 q hq (fun z hz hzq => hA (by rw [← hzq]; exact hlo z hz)), hlo⟩
  have hkeep : ∀ a : Nat, a < (dH D).size → ¬ Ao D a → s.heap[a]? = (dH D)[a]? := fun a _ hA => hbase.2 a (Nat.not_le.mp hA)
  refine vx_throwS (cls := eNm 0) (own := RX10) (names := xNm) (text := "the line would be too long") (ik := 68) (is := 70) (ic := 72) (sa := sa) (A := Ao D) (mc := R.cells) (ms := R.slots) hC.1 hC.2.1 hC.2.2.2.2.2.2.2.2.2.1 hC.2.2.2.1 (by decide) (by decide) (hC.ws (n := 584) (by decide +kernel) rfl) (hC.ws (n := 78) (by decide +kernel) rfl) hstr hat (by decide +kernel) (hKX.2.1.kept hkeep) (hKX.2.2.1.kept hkeep) hS9 (hC.sz hL)
    (by decide +kernel) (by decide +kernel) (by decide +kernel) (by decide +kernel) (by decide +kernel) (by rw [show c.exceptionTable.toList = [] from hC.2.2.2.2.2.2.2.2.1.resolve_left (by decide)]; exact fun z hz => nomatch hz) (by show 2 + 3 < R.frames; have := hR.1; omega) (by rw [cats_sum]; have := hR.2; show cats st + (13 * (2 + 1) + 43) ≤ R.locals; omega) (by omega) (by omega) hC.2.2.2.2.2.1 (fun t hvm e1 e2 => ⟨0, hgrow h t.heap.size, by decide, rfl, hX _ (by rw [← hr.1]; exact e1), hr.grow e1 e2⟩) hlo (by omega) (by omega) T hT X9
set_option maxRecDepth 100000 in
theorem thr_72 {D : mD} {d nx i : Nat} {ls : List (Option mV)} {st : List mV} {h : mH} {bc bs : Nat} {Q : mQ} {X : mX} (hb : 1 ≤ bc ∧ 6 ≤ bs) (hcat : cats st ≤ 8) (hX : ∀ z, hsz h ≤ z → X 1 (hgrow h z)) {pc : Nat} (hpc : pc % 100000 = 14) : simP D (KXo D) d 72 pc ls st h bc bs Q X := by
  intro p l e R s m args below meth c H locs cells slots LS hC hr hL hS hR hbc hbs hlo
  rw [hpc]
  have hKX : KXo D s := hC.kf.2.2.2.2.2.2.2.2.2.2
  obtain ⟨sa, hstr⟩ := hKX.2.2.2 (88, "the size or the day is out of bounds") (by decide)
  have hts := hC.2.2.2.2.1
  have hat : ∀ w ∈ vx_atS RX10 90 (eNm 1) xNm, w.before args s = true := vx_hat (B := xW) (fun w hw => hts w (List.mem_filter.mpr ⟨thw_90 w hw, (List.mem_filter.mp hw).2⟩)) thn_90 (fun w hw => va_Nw.use (xw_on w hw) (hKX.1 w hw))
  intro T hT X9
  obtain ⟨f1, f2⟩ := vx_frame (U := T) (k := cells) (n := slots) X9.same
  have hbase := hC.2.2.2.2.2.2.2.2.2.2.2.2
  have hS9 : va_S (Ao D) s.heap H locs := ⟨by rw [← hT]; exact f1, fun q hq hA => by rw [← hT]; exact f2 q hq (fun z hz hzq => hA (by rw [← hzq]; exact hlo z hz)), hlo⟩
  have hkeep : ∀ a : Nat, a < (dH D).size → ¬ Ao D a → s.heap[a]? = (dH D)[a]? := fun a _ hA => hbase.2 a (Nat.not_le.mp hA)
  refine vx_throwS (cls := eNm 1) (own := RX10) (names := xNm) (text := "the size or the day is out of bounds") (ik := 86) (is := 88) (ic := 90) (sa := sa) (A := Ao D) (mc := R.cells) (ms := R.slots) hC.1 hC.2.1 hC.2.2.2.2.2.2.2.2.2.1 hC.2.2.2.1 (by decide) (by decide) (hC.ws (n := 668) (by decide +kernel) rfl) (hC.ws (n := 79) (by decide +kernel) rfl) hstr hat (by decide +kernel) (hKX.2.1.kept hkeep) (hKX.2.2.1.kept hkeep) hS9 (hC.sz hL)
    (by decide +kernel) (by decide +kernel) (by decide +kernel) (by decide +kernel) (by decide +kernel) (by rw [show c.exceptionTable.toList = [] from hC.2.2.2.2.2.2.2.2.1.resolve_left (by decide)]; exact fun z hz => nomatch hz) (by show 2 + 3 < R.frames; have := hR.1; omega) (by rw [cats_sum]; have := hR.2; show cats st + (13 * (2 + 1) + 43) ≤ R.locals; omega) (by omega) (by omega) hC.2.2.2.2.2.1 (fun t hvm e1 e2 => ⟨1, hgrow h t.heap.size, by decide, rfl, hX _ (by rw [← hr.1]; exact e1), hr.grow e1 e2⟩) hlo (by omega) (by omega) T hT X9
set_option maxRecDepth 100000 in
theorem thr_73 {D : mD} {d nx i : Nat} {ls : List (Option mV)} {st : List mV} {h : mH} {bc bs : Nat} {Q : mQ} {X : mX} (hb : 1 ≤ bc ∧ 6 ≤ bs) (hcat : cats st ≤ 8) (hX : ∀ z, hsz h ≤ z → X 1 (hgrow h z)) {pc : Nat} (hpc : pc % 100000 = 7) : simP D (KXo D) d 73 pc ls st h bc bs Q X := by
  intro p l e R s m args below meth c H locs cells slots LS hC hr hL hS hR hbc hbs hlo
  rw [hpc]
  have hKX : KXo D s := hC.kf.2.2.2.2.2.2.2.2.2.2
  obtain ⟨sa, hstr⟩ := hKX.2.2.2 (104, "the day is out of bounds") (by decide)
  have hts := hC.2.2.2.2.1
  have hat : ∀ w ∈ vx_atS RX10 90 (eNm 1) xNm, w.before args s = true := vx_hat (B := xW) (fun w hw => hts w (List.mem_filter.mpr ⟨thw_90 w hw, (List.mem_filter.mp hw).2⟩)) thn_90 (fun w hw => va_Nw.use (xw_on w hw) (hKX.1 w hw))
  intro T hT X9
  obtain ⟨f1, f2⟩ := vx_frame (U := T) (k := cells) (n := slots) X9.same
  have hbase := hC.2.2.2.2.2.2.2.2.2.2.2.2
  have hS9 : va_S (Ao D) s.heap H locs := ⟨by rw [← hT]; exact f1, fun q hq hA => by rw [← hT]; exact f2 q hq (fun z hz hzq => hA (by rw [← hzq]; exact hlo z hz)), hlo⟩
  have hkeep : ∀ a : Nat, a < (dH D).size → ¬ Ao D a → s.heap[a]? = (dH D)[a]? := fun a _ hA => hbase.2 a (Nat.not_le.mp hA)
  refine vx_throwS (cls := eNm 1) (own := RX10) (names := xNm) (text := "the day is out of bounds") (ik := 86) (is := 104) (ic := 90) (sa := sa) (A := Ao D) (mc := R.cells) (ms := R.slots) hC.1 hC.2.1 hC.2.2.2.2.2.2.2.2.2.1 hC.2.2.2.1 (by decide) (by decide) (hC.ws (n := 668) (by decide +kernel) rfl) (hC.ws (n := 79) (by decide +kernel) rfl) hstr hat (by decide +kernel) (hKX.2.1.kept hkeep) (hKX.2.2.1.kept hkeep) hS9 (hC.sz hL)
    (by decide +kernel) (by decide +kernel) (by decide +kernel) (by decide +kernel) (by decide +kernel) (by rw [show c.exceptionTable.toList = [] from hC.2.2.2.2.2.2.2.2.1.resolve_left (by decide)]; exact fun z hz => nomatch hz) (by show 2 + 3 < R.frames; have := hR.1; omega) (by rw [cats_sum]; have := hR.2; show cats st + (13 * (2 + 1) + 43) ≤ R.locals; omega) (by omega) (by omega) hC.2.2.2.2.2.1 (fun t hvm e1 e2 => ⟨1, hgrow h t.heap.size, by decide, rfl, hX _ (by rw [← hr.1]; exact e1), hr.grow e1 e2⟩) hlo (by omega) (by omega) T hT X9
set_option maxRecDepth 100000 in
theorem thr_76 {D : mD} {d nx i : Nat} {ls : List (Option mV)} {st : List mV} {h : mH} {bc bs : Nat} {Q : mQ} {X : mX} (hb : 1 ≤ bc ∧ 6 ≤ bs) (hcat : cats st ≤ 8) (hX : ∀ z, hsz h ≤ z → X 1 (hgrow h z)) {pc : Nat} (hpc : pc % 100000 = 10) : simP D (KXo D) d 76 pc ls st h bc bs Q X := by
  intro p l e R s m args below meth c H locs cells slots LS hC hr hL hS hR hbc hbs hlo
  rw [hpc]
  have hKX : KXo D s := hC.kf.2.2.2.2.2.2.2.2.2.2
  obtain ⟨sa, hstr⟩ := hKX.2.2.2 (163, "the bits are not 0 to 7") (by decide)
  have hts := hC.2.2.2.2.1
  have hat : ∀ w ∈ vx_atS RX10 90 (eNm 1) xNm, w.before args s = true := vx_hat (B := xW) (fun w hw => hts w (List.mem_filter.mpr ⟨thw_90 w hw, (List.mem_filter.mp hw).2⟩)) thn_90 (fun w hw => va_Nw.use (xw_on w hw) (hKX.1 w hw))
  intro T hT X9
  obtain ⟨f1, f2⟩ := vx_frame (U := T) (k := cells) (n := slots) X9.same
  have hbase := hC.2.2.2.2.2.2.2.2.2.2.2.2
  have hS9 : va_S (Ao D) s.heap H locs := ⟨by rw [← hT]; exact f1, fun q hq hA => by rw [← hT]; exact f2 q hq (fun z hz hzq => hA (by rw [← hzq]; exact hlo z hz)), hlo⟩
  have hkeep : ∀ a : Nat, a < (dH D).size → ¬ Ao D a → s.heap[a]? = (dH D)[a]? := fun a _ hA => hbase.2 a (Nat.not_le.mp hA)
  refine vx_throwS (cls := eNm 1) (own := RX10) (names := xNm) (text := "the bits are not 0 to 7") (ik := 86) (is := 163) (ic := 90) (sa := sa) (A := Ao D) (mc := R.cells) (ms := R.slots) hC.1 hC.2.1 hC.2.2.2.2.2.2.2.2.2.1 hC.2.2.2.1 (by decide) (by decide) (hC.ws (n := 668) (by decide +kernel) rfl) (hC.ws (n := 79) (by decide +kernel) rfl) hstr hat (by decide +kernel) (hKX.2.1.kept hkeep) (hKX.2.2.1.kept hkeep) hS9 (hC.sz hL)
    (by decide +kernel) (by decide +kernel) (by decide +kernel) (by decide +kernel) (by decide +kernel) (by rw [show c.exceptionTable.toList = [] from hC.2.2.2.2.2.2.2.2.1.resolve_left (by decide)]; exact fun z hz => nomatch hz) (by show 2 + 3 < R.frames; have := hR.1; omega) (by rw [cats_sum]; have := hR.2; show cats st + (13 * (2 + 1) + 43) ≤ R.locals; omega) (by omega) (by omega) hC.2.2.2.2.2.1 (fun t hvm e1 e2 => ⟨1, hgrow h t.heap.size, by decide, rfl, hX _ (by rw [← hr.1]; exact e1), hr.grow e1 e2⟩) hlo (by omega) (by omega) T hT X9
set_option maxRecDepth 100000 in
theorem thr_80 {D : mD} {d nx i : Nat} {ls : List (Option mV)} {st : List mV} {h : mH} {bc bs : Nat} {Q : mQ} {X : mX} (hb : 1 ≤ bc ∧ 6 ≤ bs) (hcat : cats st ≤ 8) (hX : ∀ z, hsz h ≤ z → X 1 (hgrow h z)) {pc : Nat} (hpc : pc % 100000 = 7) : simP D (KXo D) d 80 pc ls st h bc bs Q X := by
  intro p l e R s m args below meth c H locs cells slots LS hC hr hL hS hR hbc hbs hlo
  rw [hpc]
  have hKX : KXo D s := hC.kf.2.2.2.2.2.2.2.2.2.2
  obtain ⟨sa, hstr⟩ := hKX.2.2.2 (185, "the present day is out of bounds") (by decide)
  have hts := hC.2.2.2.2.1
  have hat : ∀ w ∈ vx_atS RX10 90 (eNm 1) xNm, w.before args s = true := vx_hat (B := xW) (fun w hw => hts w (List.mem_filter.mpr ⟨thw_90 w hw, (List.mem_filter.mp hw).2⟩)) thn_90 (fun w hw => va_Nw.use (xw_on w hw) (hKX.1 w hw))
  intro T hT X9
  obtain ⟨f1, f2⟩ := vx_frame (U := T) (k := cells) (n := slots) X9.same
  have hbase := hC.2.2.2.2.2.2.2.2.2.2.2.2
  have hS9 : va_S (Ao D) s.heap H locs := ⟨by rw [← hT]; exact f1, fun q hq hA => by rw [← hT]; exact f2 q hq (fun z hz hzq => hA (by rw [← hzq]; exact hlo z hz)), hlo⟩
  have hkeep : ∀ a : Nat, a < (dH D).size → ¬ Ao D a → s.heap[a]? = (dH D)[a]? := fun a _ hA => hbase.2 a (Nat.not_le.mp hA)
  refine vx_throwS (cls := eNm 1) (own := RX10) (names := xNm) (text := "the present day is out of bounds") (ik := 86) (is := 185) (ic := 90) (sa := sa) (A := Ao D) (mc := R.cells) (ms := R.slots) hC.1 hC.2.1 hC.2.2.2.2.2.2.2.2.2.1 hC.2.2.2.1 (by decide) (by decide) (hC.ws (n := 668) (by decide +kernel) rfl) (hC.ws (n := 79) (by decide +kernel) rfl) hstr hat (by decide +kernel) (hKX.2.1.kept hkeep) (hKX.2.2.1.kept hkeep) hS9 (hC.sz hL)
    (by decide +kernel) (by decide +kernel) (by decide +kernel) (by decide +kernel) (by decide +kernel) (by rw [show c.exceptionTable.toList = [] from hC.2.2.2.2.2.2.2.2.1.resolve_left (by decide)]; exact fun z hz => nomatch hz) (by show 2 + 3 < R.frames; have := hR.1; omega) (by rw [cats_sum]; have := hR.2; show cats st + (13 * (2 + 1) + 43) ≤ R.locals; omega) (by omega) (by omega) hC.2.2.2.2.2.1 (fun t hvm e1 e2 => ⟨1, hgrow h t.heap.size, by decide, rfl, hX _ (by rw [← hr.1]; exact e1), hr.grow e1 e2⟩) hlo (by omega) (by omega) T hT X9
set_option maxRecDepth 100000 in
theorem thr_83 {D : mD} {d nx i : Nat} {ls : List (Option mV)} {st : List mV} {h : mH} {bc bs : Nat} {Q : mQ} {X : mX} (hb : 1 ≤ bc ∧ 6 ≤ bs) (hcat : cats st ≤ 8) (hX : ∀ z, hsz h ≤ z → X 2 (hgrow h z)) {pc : Nat} (hpc : pc % 100000 = 13) : simP D (KXo D) d 83 pc ls st h bc bs Q X := by
  intro p l e R s m args below meth c H locs cells slots LS hC hr hL hS hR hbc hbs hlo
  rw [hpc]
  have hKX : KXo D s := hC.kf.2.2.2.2.2.2.2.2.2.2
  obtain ⟨sa, hstr⟩ := hKX.2.2.2 (218, "there is no such node") (by decide)
  have hts := hC.2.2.2.2.1
  have hat : ∀ w ∈ vx_atS RX10 220 (eNm 2) xNm, w.before args s = true := vx_hat (B := xW) (fun w hw => hts w (List.mem_filter.mpr ⟨thw_220 w hw, (List.mem_filter.mp hw).2⟩)) thn_220 (fun w hw => va_Nw.use (xw_on w hw) (hKX.1 w hw))
  intro T hT X9
  obtain ⟨f1, f2⟩ := vx_frame (U := T) (k := cells) (n := slots) X9.same
  have hbase := hC.2.2.2.2.2.2.2.2.2.2.2.2
  have hS9 : va_S (Ao D) s.heap H locs := ⟨by rw [← hT]; exact f1, fun q hq hA => by rw [← hT]; exact f2 q hq (fun z hz hzq => hA (by rw [← hzq]; exact hlo z hz)), hlo⟩
  have hkeep : ∀ a : Nat, a < (dH D).size → ¬ Ao D a → s.heap[a]? = (dH D)[a]? := fun a _ hA => hbase.2 a (Nat.not_le.mp hA)
  refine vx_throwS (cls := eNm 2) (own := RX10) (names := xNm) (text := "there is no such node") (ik := 216) (is := 218) (ic := 220) (sa := sa) (A := Ao D) (mc := R.cells) (ms := R.slots) hC.1 hC.2.1 hC.2.2.2.2.2.2.2.2.2.1 hC.2.2.2.1 (by decide) (by decide) (hC.ws (n := 941) (by decide +kernel) rfl) (hC.ws (n := 86) (by decide +kernel) rfl) hstr hat (by decide +kernel) (hKX.2.1.kept hkeep) (hKX.2.2.1.kept hkeep) hS9 (hC.sz hL)
    (by decide +kernel) (by decide +kernel) (by decide +kernel) (by decide +kernel) (by decide +kernel) (by rw [show c.exceptionTable.toList = [] from hC.2.2.2.2.2.2.2.2.1.resolve_left (by decide)]; exact fun z hz => nomatch hz) (by show 2 + 3 < R.frames; have := hR.1; omega) (by rw [cats_sum]; have := hR.2; show cats st + (13 * (2 + 1) + 43) ≤ R.locals; omega) (by omega) (by omega) hC.2.2.2.2.2.1 (fun t hvm e1 e2 => ⟨2, hgrow h t.heap.size, by decide, rfl, hX _ (by rw [← hr.1]; exact e1), hr.grow e1 e2⟩) hlo (by omega) (by omega) T hT X9
theorem throw_ok (D : mD) : ThrowP D (KXo D) := by
  intro k pc i nx x d ls st h bc bs Q X ho hb hcat hX
  unfold okE at ho
  simp only [Bool.and_eq_true, decide_eq_true_eq] at ho
  have hm := ho.2.2
  simp only [thrL, List.mem_cons, Prod.mk.injEq, List.not_mem_nil, or_false] at hm
  rcases hm with ⟨rfl, hp, rfl⟩ | ⟨rfl, hp, rfl⟩ | ⟨rfl, hp, rfl⟩ | ⟨rfl, hp, rfl⟩ | ⟨rfl, hp, rfl⟩ | ⟨rfl, hp, rfl⟩
  · exact thr_70 (nx := nx) (i := i) hb hcat hX hp
  · exact thr_72 (nx := nx) (i := i) hb hcat hX hp
  · exact thr_73 (nx := nx) (i := i) hb hcat hX hp
  · exact thr_76 (nx := nx) (i := i) hb hcat hX hp
  · exact thr_80 (nx := nx) (i := i) hb hcat hX hp
  · exact thr_83 (nx := nx) (i := i) hb hcat hX hp
