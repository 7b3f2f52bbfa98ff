theorem vm_u : VmData.none ≠ VmData.unknown := fun q => by cases q
theorem vm_s (k : ClassId) : VmData.none ≠ VmData.statics k := fun q => by cases q
theorem CellO.frame {D : mD} {h h' : mH} {H H' : Heap} {t a : Nat} (hc : CellO D h H t a) (e : H'[a]? = H[a]?) (hi : ∀ j, hvi h' a j = hvi h a j) (hr : ∀ j, hvr h' a j = hvr h a j) : CellO D h' H' t a := by
  obtain ⟨cell, h1, h2, h3, h4⟩ := hc
  refine ⟨cell, by rw [e]; exact h1, h2, h3, fun j hj => ?_⟩
  rw [h4 j hj]
  unfold svO
  rw [hi, hr]
theorem CellA.frame {D : mD} {h h' : mH} {H H' : Heap} {t n a : Nat} (hc : CellA D h H t n a) (e : H'[a]? = H[a]?) (hi : ∀ j, hvi h' a j = hvi h a j) (hr : ∀ j, hvr h' a j = hvr h a j) (hl : ∀ j, hvl h' a j = hvl h a j) : CellA D h' H' t n a := by
  obtain ⟨cell, h1, h2, h3, h5, h4⟩ := hc
  refine ⟨cell, by rw [e]; exact h1, h2, h3, h5, fun j hj => ?_⟩
  rw [h4 j hj]
  unfold svA
  rw [hi, hr, hl]
theorem CellW.frame {D : mD} {h h' : mH} {H H' : Heap} {t n a : Nat} (hc : CellW D h H a t n) (e : H'[a]? = H[a]?) (hi : ∀ j, hvi h' a j = hvi h a j) (hr : ∀ j, hvr h' a j = hvr h a j) (hl : ∀ j, hvl h' a j = hvl h a j) : CellW D h' H' a t n := by
  rcases hc with ⟨h1, h2, h3⟩ | ⟨h1, h2, h3, h4, h5⟩
  · exact Or.inl ⟨h1, h2, h3.frame e hi hr⟩
  · refine Or.inr ⟨h1, h2, h3, h4.frame e hi hr hl, fun q j hj => ?_⟩
    rw [hi]
    exact h5 q j hj
/-- one cell changes -/
theorem Rel.upd {D : mD} {h h' : mH} {H H' : Heap} {a t n : Nat} (hr : Rel D h H) (ha : dB D ≤ a) (ht : hty h a = some (t, n)) (hsz' : hsz h' = hsz h) (hty' : ∀ b, hty h' b = hty h b)
    (hi : ∀ b, b ≠ a → ∀ j, hvi h' b j = hvi h b j) (hv : ∀ b, b ≠ a → ∀ j, hvr h' b j = hvr h b j) (hl : ∀ b, b ≠ a → ∀ j, hvl h' b j = hvl h b j) (hi' : ∀ j, inR (hvi h' a j)) (hl' : ∀ j, inL (hvl h' a j))
    (e1 : H'.size = H.size) (e2 : ∀ q, q ≠ a → H'[q]? = H[q]?) (hc : CellW D h' H' a t n) : Rel D h' H' := by
  obtain ⟨r1, r2, r3, r4, r5, r6, r7, r8⟩ := hr
  refine ⟨by rw [e1, hsz']; exact r1, by rw [hsz']; exact r2, fun b j => ?_, fun b j => ?_, fun q hq => ?_, fun b hb => ?_, fun b hb => ?_, fun b t' n' hb ht' => ?_⟩
  · by_cases hba : b = a
    · subst hba; exact hi' j
    · rw [hi b hba]; exact r3 b j
  · by_cases hba : b = a
    · subst hba; exact hl' j
    · rw [hl b hba]; exact r4 b j
  · rw [e2 q (by omega)]; exact r5 q hq
  · have hba : b ≠ a := by omega
    rw [hty']
    exact ⟨(r6 b hb).1, fun j => by rw [hi b hba, hv b hba]; exact (r6 b hb).2 j⟩
  · rw [hty']; rw [hsz'] at hb; exact r7 b hb
  · rw [hty'] at ht'
    by_cases hba : b = a
    · subst hba
      rw [ht] at ht'
      cases ht'
      exact hc
    · exact (r8 b t' n' hb ht').frame (e2 b hba) (hi b hba) (hv b hba) (hl b hba)
/-- a cell more -/
theorem Rel.push {D : mD} {h : mH} {H H' : Heap} {t n : Nat} (hr : Rel D h H) (e1 : H'.size = H.size + 1) (e2 : ∀ q, q < H.size → H'[q]? = H[q]?) (hc : CellW D (hpush h t n) H' (hsz h) t n) : Rel D (hpush h t n) H' := by
  obtain ⟨r1, r2, r3, r4, r5, r6, r7, r8⟩ := hr
  refine ⟨by rw [e1, hsz_P, r1], by rw [hsz_P]; omega, fun b j => ?_, fun b j => ?_, fun q hq => ?_, fun b hb => ?_, fun b hb => ?_, fun b t' n' hb ht' => ?_⟩
  · rw [hvi_P]; split
    · exact inR0
    · exact r3 b j
  · rw [hvl_P]; split
    · exact ⟨by decide, by decide⟩
    · exact r4 b j
  · rw [e2 q (by omega)]; exact r5 q hq
  · have hne : b ≠ hsz h := by omega
    refine ⟨by rw [hty_P, if_neg hne]; exact (r6 b hb).1, fun j => ?_⟩
    rw [hvi_P, if_neg hne, hvr_P, if_neg hne]
    exact (r6 b hb).2 j
  · rw [hsz_P] at hb
    rw [hty_P, if_neg (by omega)]
    exact r7 b (by omega)
  · rw [hty_P] at ht'
    by_cases hba : b = hsz h
    · rw [if_pos hba] at ht'
      cases ht'
      rw [hba]; exact hc
    · rw [if_neg hba] at ht'
      have hlt : b < hsz h := by
        rcases Nat.lt_or_ge b (hsz h) with q | q
        · exact q
        · rw [r7 b q] at ht'; cases ht'
      exact (r8 b t' n' hb ht').frame (e2 b (by omega)) (fun j => by rw [hvi_P, if_neg hba]) (fun j => by rw [hvr_P, if_neg hba]) (fun j => by rw [hvl_P, if_neg hba])
theorem Rel.grow {D : mD} {h : mH} {H H' : Heap} (hr : Rel D h H) (e1 : H.size ≤ H'.size) (e2 : ∀ q, q < H.size → H'[q]? = H[q]?) : Rel D (hgrow h H'.size) H' := by
  obtain ⟨r1, r2, r3, r4, r5, r6, r7, r8⟩ := hr
  refine ⟨rfl, by rw [hsz_G]; omega, r3, r4, fun q hq => by rw [e2 q (by omega)]; exact r5 q hq, r6, fun b hb => ?_, fun b t' n' hb ht' => ?_⟩
  · rw [hsz_G] at hb; exact r7 b (by omega)
  · have hlt : b < hsz h := by
      rcases Nat.lt_or_ge b (hsz h) with q | q
      · exact q
      · rw [show hty (hgrow h H'.size) b = hty h b from rfl, r7 b q] at ht'; cases ht'
    exact (r8 b t' n' hb ht').frame (e2 b (by omega)) (fun j => rfl) (fun j => rfl) (fun j => rfl)
/-- where a cell of an own class is -/
theorem Rel.own {D : mD} {KX : State → Prop} {h : mH} {H : Heap} {s : State} {a t n : Nat} (hr : Rel D h H) (hK : KF D KX s) (ht : hty h a = some (t, n)) (h12 : t < 12) : dB D ≤ a ∧ n = NFc t ∧ CellO D h H t a := by
  rcases Nat.lt_or_ge a (dB D) with q | q
  · rw [(hr.2.2.2.2.2.1 a q).1] at ht
    have h1 := hK.2.2.1 a t n q ht
    have := h1.1; omega
  · rcases hr.2.2.2.2.2.2.2 a t n q ht with h1 | h1
    · exact ⟨q, h1.2.1, h1.2.2⟩
    · have := h1.1; omega
theorem Rel.arr {D : mD} {KX : State → Prop} {h : mH} {H : Heap} {s : State} {a t n : Nat} (hr : Rel D h H) (hK : KF D KX s) (ht : hty h a = some (t, n)) (h20 : 20 ≤ t) (h26 : t < 26) : dB D ≤ a ∧ n ≤ 60000 ∧ CellA D h H t n a ∧ ChR h t n a := by
  rcases Nat.lt_or_ge a (dB D) with q | q
  · rw [(hr.2.2.2.2.2.1 a q).1] at ht
    have h1 := hK.2.2.1 a t n q ht
    have := h1.1; omega
  · rcases hr.2.2.2.2.2.2.2 a t n q ht with h1 | h1
    · have := h1.1; omega
    · exact ⟨q, h1.2.2.1, h1.2.2.2.1, h1.2.2.2.2⟩
theorem Rel.ro {D : mD} {KX : State → Prop} {h : mH} {H : Heap} {s : State} {a t n : Nat} (hr : Rel D h H) (hK : KF D KX s) (ht : hty h a = some (t, n)) (h50 : 50 ≤ t) : a < dB D ∧ RoA D s a t n := by
  rcases Nat.lt_or_ge a (dB D) with q | q
  · rw [(hr.2.2.2.2.2.1 a q).1] at ht
    exact ⟨q, hK.2.2.1 a t n q ht⟩
  · rcases hr.2.2.2.2.2.2.2 a t n q ht with h1 | h1
    · have := h1.1; omega
    · have := h1.1; omega
/-- an array's cell, whoever owns it -/
theorem Rel.any {D : mD} {KX : State → Prop} {h : mH} {H : Heap} {s : State} {a t n : Nat} (hr : Rel D h H) (hK : KF D KX s) (ht : hty h a = some (t, n)) (hta : isArr t = true) :
    n ≤ 60000 ∧ ChR h t n a ∧ ∃ cell : Cell, H[a]? = some cell ∧ s.isArrayOf cell (ety t) ∧ cell.vm ≠ .unknown ∧ n ≤ cell.slots.size ∧ cell.slots.size.toInt32 = Int32.ofNat n ∧ ∀ j, j < n → cell.slots[j]? = some (svA h t a j) := by
  have hcase : (20 ≤ t ∧ t < 26) ∨ 50 ≤ t := by
    simp only [isArr, Bool.or_eq_true, beq_iff_eq] at hta
    omega
  rcases hcase with ⟨h20, h26⟩ | h50
  · obtain ⟨-, h1, ⟨cell, c1, c2, c3, c4, c5⟩, h3⟩ := hr.arr hK ht h20 h26
    refine ⟨h1, h3, cell, c1, ?_, by rw [c3]; exact vm_u, by omega, by rw [c4], c5⟩
    have hA := (hK.2.1 t h20 h26).1 0 (fun _ => .null)
    refine ⟨fun q => by rw [c3]; exact vm_s q, ?_⟩
    rw [c2]
    exact hA.2
  · obtain ⟨hlt, h1, h2, h3, cell, c1, c2, c3, c4, c5, c6⟩ := hr.ro hK ht h50
    have hv := (hr.2.2.2.2.2.1 a hlt).2
    refine ⟨h2, fun q j hj => by rw [(hv j).1]; exact h3 q j hj, cell, by rw [hr.2.2.2.2.1 a hlt]; exact c1, c2, c3, c4, c5, fun j hj => ?_⟩
    rw [c6 j hj]
    unfold svA
    rw [if_neg (by omega), if_neg (by omega), (hv j).1]

section Sim
variable {D : mD} {KX : State → Prop} {d k pc nx x : Nat} {y : List Nat} {ls : List (Option mV)} {st : List mV} {h : mH} {bc bs : Nat} {Q : mQ} {X : mX}
variable {p : Program} {l : Launch} {e : Env} {R : Room} {s : State} {m : MethodId} {args : Array Value} {below : List Frame} {meth : Method} {c : Code} {H : Heap} {locs : List Loc} {cells slots : Nat} {LS : Array Slot}
theorem si_arraylength (ho : okE k pc (.arraylength, nx, x, []) = true) (hw : wpi (dG D) (simP D KX) (.arraylength, nx, x, []) d k pc ls st h bc bs Q X) : simP D KX d k pc ls st h bc bs Q X := by
  intro p l e R s m args below meth c H locs cells slots LS hC hr hL hS hR hbc hbs hlo
  obtain ⟨hd, hn⟩ := okE_dec ho (by simp [ilen])
  match st, hw, hS with
  | .inr (.inl (some a)) :: r, hw, hS =>
    unfold wpi at hw
    dsimp only at hw
    split at hw
    · rename_i t n ht
      obtain ⟨hta, hw⟩ := hw
      obtain ⟨hn6, -, cell, c1, c2, c3, c4, c5, -⟩ := hr.any hC.2.2.2.2.2.2.2.2.2.2.1 ht hta
      refine W.alen (n := Int32.ofInt (n : Int)) hC.1 hC.2.1 c1 c2 (by rw [c5]; rfl) rfl rfl hd (go hw hn rfl hC hr hL (okS_c (v := .inl (n : Int)) (show inR (n : Int) from ⟨by omega, by omega⟩) (okS_t hS)) hR hbc hbs hlo)
    · exact hw.elim
theorem in_idx {i : Int} {n sz : Nat} (hi : inR i) (h0 : 0 ≤ i) (h1 : i < n) (h2 : n ≤ sz) : ¬ (Int32.ofInt i < 0 ∨ sz ≤ (Int32.ofInt i).toNatClampNeg) := by
  rw [i32_nat hi h0]
  rintro (q | q)
  · rw [z_lt hi] at q; omega
  · omega
theorem si_iaload (ho : okE k pc (.iaload, nx, x, y) = true) (hw : wpi (dG D) (simP D KX) (.iaload, nx, x, y) d k pc ls st h bc bs Q X) : simP D KX d k pc ls st h bc bs Q X := by
  intro p l e R s m args below meth c H locs cells slots LS hC hr hL hS hR hbc hbs hlo
  obtain ⟨hd, hn⟩ := okE_dec ho (by simp [ilen])
  match st, hw, hS with
  | .inl i :: .inr (.inl (some a)) :: r, hw, hS =>
    unfold wpi at hw
    dsimp only at hw
    split at hw
    · rename_i t n ht
      obtain ⟨htt, ⟨h0, h1⟩, hw⟩ := hw
      have hiR : inR i := okS_h hS
      have hta : isArr t = true := by rcases htt with rfl | rfl <;> rfl
      obtain ⟨hn6, -, cell, c1, c2, c3, c4, c5, c6⟩ := hr.any hC.2.2.2.2.2.2.2.2.2.2.1 ht hta
      have hv : cell.slots[(Int32.ofInt i).toNatClampNeg]? = some (svA h t a i.toNat) := by
        rw [i32_nat hiR h0]
        exact c6 _ (by omega)
      have hsv : svA h t a i.toNat = .int (Int32.ofInt (hvi h a i.toNat)) := by rcases htt with rfl | rfl <;> rfl
      rw [hsv] at hv
      have he : ety t = .int := by rcases htt with rfl | rfl <;> rfl
      rw [he] at c2
      exact W.iald hC.1 hC.2.1 c1 c2 c3 (in_idx hiR h0 h1 c4) hv rfl rfl hd (go hw hn rfl hC hr hL (okS_c (v := .inl _) (hr.2.2.1 a _) (okS_t (okS_t hS))) hR hbc hbs hlo)
    · exact hw.elim
theorem si_caload (ho : okE k pc (.caload, nx, x, y) = true) (hw : wpi (dG D) (simP D KX) (.caload, nx, x, y) d k pc ls st h bc bs Q X) : simP D KX d k pc ls st h bc bs Q X := by
  intro p l e R s m args below meth c H locs cells slots LS hC hr hL hS hR hbc hbs hlo
  obtain ⟨hd, hn⟩ := okE_dec ho (by simp [ilen])
  match st, hw, hS with
  | .inl i :: .inr (.inl (some a)) :: r, hw, hS =>
    unfold wpi at hw
    dsimp only at hw
    split at hw
    · rename_i t n ht
      obtain ⟨htt, ⟨h0, h1⟩, hw⟩ := hw
      have hiR : inR i := okS_h hS
      have hta : isArr t = true := by rcases htt with rfl | rfl <;> rfl
      obtain ⟨hn6, -, cell, c1, c2, c3, c4, c5, c6⟩ := hr.any hC.2.2.2.2.2.2.2.2.2.2.1 ht hta
      have hv : cell.slots[(Int32.ofInt i).toNatClampNeg]? = some (svA h t a i.toNat) := by
        rw [i32_nat hiR h0]
        exact c6 _ (by omega)
      have hsv : svA h t a i.toNat = .int (Int32.ofInt (hvi h a i.toNat)) := by rcases htt with rfl | rfl <;> rfl
      rw [hsv] at hv
      have he : ety t = .char := by rcases htt with rfl | rfl <;> rfl
      rw [he] at c2
      exact W.cald hC.1 hC.2.1 c1 c2 c3 (in_idx hiR h0 h1 c4) hv rfl rfl hd (go hw hn rfl hC hr hL (okS_c (v := .inl _) (hr.2.2.1 a _) (okS_t (okS_t hS))) hR hbc hbs hlo)
    · exact hw.elim
theorem si_baload (ho : okE k pc (.baload, nx, x, []) = true) (hw : wpi (dG D) (simP D KX) (.baload, nx, x, []) d k pc ls st h bc bs Q X) : simP D KX d k pc ls st h bc bs Q X := by
  intro p l e R s m args below meth c H locs cells slots LS hC hr hL hS hR hbc hbs hlo
  obtain ⟨hd, hn⟩ := okE_dec ho (by simp [ilen])
  match st, hw, hS with
  | .inl i :: .inr (.inl (some a)) :: r, hw, hS =>
    unfold wpi at hw
    dsimp only at hw
    split at hw
    · rename_i t n ht
      obtain ⟨htt, ⟨h0, h1⟩, hw⟩ := hw
      have hiR : inR i := okS_h hS
      have hta : isArr t = true := by subst htt; rfl
      obtain ⟨hn6, -, cell, c1, c2, c3, c4, c5, c6⟩ := hr.any hC.2.2.2.2.2.2.2.2.2.2.1 ht hta
      have hv : cell.slots[(Int32.ofInt i).toNatClampNeg]? = some (svA h t a i.toNat) := by
        rw [i32_nat hiR h0]
        exact c6 _ (by omega)
      subst htt
      exact W.zald hC.1 hC.2.1 c1 c2 c3 (in_idx hiR h0 h1 c4) hv rfl rfl hd (go hw hn rfl hC hr hL (okS_c (v := .inl _) (hr.2.2.1 a _) (okS_t (okS_t hS))) hR hbc hbs hlo)
    · exact hw.elim
theorem sT_ok : ∀ i, i < 14 → ∀ j, j < 10 → inR (sBy (i + 1) j) ∧ sLen (i + 1) ≤ 10 := by
  have : ∀ i, i < 14 → ∀ j, j < 10 → (-2147483648 ≤ sBy (i + 1) j ∧ sBy (i + 1) j ≤ 2147483647) ∧ sLen (i + 1) ≤ 10 := by decide +kernel
  exact this
theorem kept_D {D : mD} {h : mH} {H : Heap} (hr : Rel D h H) : ∀ b : Nat, b < (dH D).size → ¬ Ao D b → H[b]? = (dH D)[b]? := fun b _ hb => hr.2.2.2.2.1 b (Nat.not_le.mp hb)
theorem si_alenS {q9 : Nat} (ho : okE k pc (.arraylength, nx, x, [q9]) = true) (hw : wpi (dG D) (simP D KX) (.arraylength, nx, x, [q9]) d k pc ls st h bc bs Q X) : simP D KX d k pc ls st h bc bs Q X := by
  intro p l e R s m args below meth c H locs cells slots LS hC hr hL hS hR hbc hbs hlo
  obtain ⟨hd, hn⟩ := okE_dec ho (by simp [ilen])
  match st, hw, hS with
  | .inr (.inl (some a)) :: r, hw, hS =>
    obtain ⟨i, ⟨h1, h2, rfl⟩, hw⟩ := hw
    have hsf := hC.2.2.2.2.2.2.2.2.2.2.1.2.2.2.2.2.2.2.2.2.1 i h1 h2
    obtain ⟨cell, g1, g2, g3, g4, g5, -⟩ := hsf.2.2.2.kept (kept_D hr)
    have h10 := (sT_ok (i - 1) (by omega) 0 (by decide)).2
    rw [show i - 1 + 1 = i by omega] at h10
    exact W.alen (n := Int32.ofInt (sLen i : Int)) hC.1 hC.2.1 g1 g2 (by rw [g5]; rfl) rfl rfl hd (go hw hn rfl hC hr hL (okS_c (v := .inl (sLen i : Int)) (show inR (sLen i : Int) from ⟨by omega, by omega⟩) (okS_t hS)) hR hbc hbs hlo)
theorem si_baldS {q9 : Nat} (ho : okE k pc (.baload, nx, x, [q9]) = true) (hw : wpi (dG D) (simP D KX) (.baload, nx, x, [q9]) d k pc ls st h bc bs Q X) : simP D KX d k pc ls st h bc bs Q X := by
  intro p l e R s m args below meth c H locs cells slots LS hC hr hL hS hR hbc hbs hlo
  obtain ⟨hd, hn⟩ := okE_dec ho (by simp [ilen])
  match st, hw, hS with
  | .inl z :: .inr (.inl (some a)) :: r, hw, hS =>
    obtain ⟨i, ⟨h1, h2, rfl⟩, ⟨hz0, hz1⟩, hw⟩ := hw
    have hzR : inR z := okS_h hS
    have hsf := hC.2.2.2.2.2.2.2.2.2.2.1.2.2.2.2.2.2.2.2.2.1 i h1 h2
    obtain ⟨cell, g1, g2, g3, g4, g5, g6, -⟩ := hsf.2.2.2.kept (kept_D hr)
    have h10 := sT_ok (i - 1) (by omega)
    rw [show i - 1 + 1 = i by omega] at h10
    have hle := (h10 0 (by decide)).2
    have hv : cell.slots[(Int32.ofInt z).toNatClampNeg]? = some (.int (Int32.ofInt (sBy i z.toNat))) := by
      rw [i32_nat hzR hz0]
      exact g6 z.toNat (by omega)
    exact W.bald hC.1 hC.2.1 g1 g2 g3 (in_idx hzR hz0 hz1 g4) hv rfl rfl hd (go hw hn rfl hC hr hL (okS_c (v := .inl _) (h10 z.toNat (by omega)).1 (okS_t (okS_t hS))) hR hbc hbs hlo)
theorem si_laload (ho : okE k pc (.laload, nx, x, y) = true) (hw : wpi (dG D) (simP D KX) (.laload, nx, x, y) d k pc ls st h bc bs Q X) : simP D KX d k pc ls st h bc bs Q X := by
  intro p l e R s m args below meth c H locs cells slots LS hC hr hL hS hR hbc hbs hlo
  obtain ⟨hd, hn⟩ := okE_dec ho (by simp [ilen])
  match st, hw, hS with
  | .inl i :: .inr (.inl (some a)) :: r, hw, hS =>
    unfold wpi at hw
    dsimp only at hw
    split at hw
    · rename_i t n ht
      obtain ⟨htt, ⟨h0, h1⟩, hw⟩ := hw
      have hiR : inR i := okS_h hS
      have hta : isArr t = true := by subst htt; rfl
      obtain ⟨hn6, -, cell, c1, c2, c3, c4, c5, c6⟩ := hr.any hC.2.2.2.2.2.2.2.2.2.2.1 ht hta
      have hv : cell.slots[(Int32.ofInt i).toNatClampNeg]? = some (svA h t a i.toNat) := by
        rw [i32_nat hiR h0]
        exact c6 _ (by omega)
      subst htt
      exact W.lald hC.1 hC.2.1 c1 c2 c3 (in_idx hiR h0 h1 c4) hv rfl rfl hd (go hw hn rfl hC hr hL (okS_c (v := .inr (.inr _)) (hr.2.2.2.1 a _) (okS_t (okS_t hS))) hR hbc hbs hlo)
    · exact hw.elim
theorem si_aaload (ho : okE k pc (.aaload, nx, x, y) = true) (hw : wpi (dG D) (simP D KX) (.aaload, nx, x, y) d k pc ls st h bc bs Q X) : simP D KX d k pc ls st h bc bs Q X := by
  intro p l e R s m args below meth c H locs cells slots LS hC hr hL hS hR hbc hbs hlo
  obtain ⟨hd, hn⟩ := okE_dec ho (by simp [ilen])
  match st, hw, hS with
  | .inl i :: .inr (.inl (some a)) :: r, hw, hS =>
    unfold wpi at hw
    dsimp only at hw
    split at hw
    · rename_i t n ht
      obtain ⟨htt, ⟨h0, h1⟩, hw⟩ := hw
      have hiR : inR i := okS_h hS
      have hta : isArr t = true := by rcases htt with rfl | rfl <;> rfl
      obtain ⟨hn6, -, cell, c1, c2, c3, c4, c5, c6⟩ := hr.any hC.2.2.2.2.2.2.2.2.2.2.1 ht hta
      have hv : cell.slots[(Int32.ofInt i).toNatClampNeg]? = some (svA h t a i.toNat) := by
        rw [i32_nat hiR h0]
        exact c6 _ (by omega)
      have hsv : svA h t a i.toNat = va_rf (hvr h a i.toNat) := by rcases htt with rfl | rfl <;> rfl
      rw [hsv] at hv
      exact W.aald hC.1 hC.2.1 c1 c2 (by rcases htt with rfl | rfl <;> rfl) c3 (in_idx hiR h0 h1 c4) hv rfl rfl hd (go hw hn rfl hC hr hL (okS_c (v := .inr (.inl _)) trivial (okS_t (okS_t hS))) hR hbc hbs hlo)
    · exact hw.elim
theorem nar_char {z : Int} (h0 : 0 ≤ z) (h1 : z < 65536) : narrow .char (.int (Int32.ofInt z)) = .int (Int32.ofInt z) := by
  obtain ⟨n, rfl⟩ := Int.eq_ofNat_of_zero_le h0
  have hn : n < 65536 := by omega
  show Value.int ((UInt32.ofNat n).toUInt16.toUInt32.toInt32) = Value.int (UInt32.ofNat n).toInt32
  have e2 : (UInt32.ofNat n).toUInt16.toUInt32 = UInt32.ofNat n := by
    apply UInt32.toNat_inj.mp
    rw [UInt16.toNat_toUInt32, UInt32.toNat_toUInt16, UInt32.toNat_ofNat_of_lt' (show n < 4294967296 by omega)]
    exact Nat.mod_eq_of_lt hn
  rw [e2]
theorem nar_bool {z : Int} (h : z = 0 ∨ z = 1) : narrow .boolean (.int (Int32.ofInt z)) = .int (Int32.ofInt z) := by
  rcases h with rfl | rfl <;> decide
theorem slots_set {cell : Cell} {i j : Nat} {v : Value} : (cell.setSlot i v).slots[j]? = if i = j ∧ i < cell.slots.size then some v else cell.slots[j]? := by
  unfold Cell.setSlot
  simp only [Array.getElem?_setIfInBounds]
  by_cases h : i = j
  · by_cases h2 : i < cell.slots.size
    · subst h; simp [h2]
    · subst h
      simp [h2]
  · simp [h]
theorem slots_set_size {cell : Cell} {i : Nat} {v : Value} : (cell.setSlot i v).slots.size = cell.slots.size := by
  unfold Cell.setSlot
  simp
/-- a store into an array of the world -/
theorem CellA.set {D : mD} {h h' : mH} {H' : Heap} {t n a i : Nat} {cell : Cell} {v : Value} (c1 : cell.cls = dA D t) (c2 : cell.vm = .none) (c3 : cell.slots.size = n) (c4 : ∀ j, j < n → cell.slots[j]? = some (svA h t a j)) (hin : i < n)
    (e : H'[a]? = some (cell.setSlot i v)) (hv : svA h' t a i = v) (ho : ∀ j, j ≠ i → svA h' t a j = svA h t a j) : CellA D h' H' t n a := by
  refine ⟨_, e, c1, c2, by rw [slots_set_size]; exact c3, fun j hj => ?_⟩
  rw [slots_set]
  by_cases hji : i = j
  · subst hji
    rw [if_pos ⟨rfl, by omega⟩, hv]
  · rw [if_neg (fun q => hji q.1), c4 j hj, ho j (fun q => hji q.symm)]
theorem si_iastore (ho : okE k pc (.iastore, nx, x, y) = true) (hw : wpi (dG D) (simP D KX) (.iastore, nx, x, y) d k pc ls st h bc bs Q X) : simP D KX d k pc ls st h bc bs Q X := by
  intro p l e R s m args below meth c H locs cells slots LS hC hr hL hS hR hbc hbs hlo
  obtain ⟨hd, hn⟩ := okE_dec ho (by simp [ilen])
  match st, hw, hS with
  | .inl z :: .inl i :: .inr (.inl (some a)) :: r, hw, hS =>
    unfold wpi at hw
    dsimp only at hw
    split at hw
    · rename_i t n ht
      obtain ⟨htt, ⟨h0, h1⟩, hw⟩ := hw
      subst htt
      have hiR : inR i := okS_h (okS_t hS)
      have hzR : inR z := okS_h hS
      have hK := hC.2.2.2.2.2.2.2.2.2.2.1
      obtain ⟨hB, hn6, ⟨cell, c1, c2, c3, c4, c5⟩, hch⟩ := hr.arr hK ht (by decide) (by decide)
      have hA := (hK.2.1 20 (by decide) (by decide)).1 0 (fun _ => .null)
      have harr : s.isArrayOf cell .int := ⟨fun q => by rw [c3]; exact vm_s q, by rw [c2]; exact hA.2⟩
      have hin : i.toNat < n := by omega
      refine W.iast hC.1 hC.2.1 c1 harr (by rw [c3]; exact vm_u) (in_idx hiR h0 h1 (by omega)) rfl rfl hd (fun H' e1 e2 e3 => ?_)
      rw [i32_nat hiR h0] at e1 ⊢
      have hrel : Rel D (hsetI h a i.toNat z) H' := by
        refine hr.upd hB ht rfl (fun b => rfl) (fun b hb j => ?_) (fun b hb j => ?_) (fun b hb j => ?_) (fun j => ?_) (fun j => ?_) e2 e3 (Or.inr ⟨by decide, by decide, hn6, CellA.set c2 c3 c4 c5 hin e1 ?_ (fun j hj => ?_), ?_⟩)
        · show (if b = a ∧ j = i.toNat then z else hvi h b j) = _; rw [if_neg (fun q => hb q.1)]
        · rfl
        · rfl
        · show inR (if a = a ∧ j = i.toNat then z else hvi h a j); split
          · exact hzR
          · exact hr.2.2.1 a j
        · exact hr.2.2.2.1 a j
        · show Value.int (Int32.ofInt (if a = a ∧ i.toNat = i.toNat then z else hvi h a i.toNat)) = _; rw [if_pos ⟨rfl, rfl⟩]
        · show Value.int (Int32.ofInt (if a = a ∧ j = i.toNat then z else hvi h a j)) = _; rw [if_neg (fun q => hj q.2)]; rfl
        · intro q; omega
      exact go hw hn rfl hC hrel hL (okS_t (okS_t (okS_t hS))) hR hbc hbs (fun z hz => (List.mem_append.mp hz).elim (hlo z) (fun q => by rw [List.mem_singleton.mp q]; exact hB))
    · exact hw.elim
theorem si_castore (ho : okE k pc (.castore, nx, x, y) = true) (hw : wpi (dG D) (simP D KX) (.castore, nx, x, y) d k pc ls st h bc bs Q X) : simP D KX d k pc ls st h bc bs Q X := by
  intro p l e R s m args below meth c H locs cells slots LS hC hr hL hS hR hbc hbs hlo
  obtain ⟨hd, hn⟩ := okE_dec ho (by simp [ilen])
  match st, hw, hS with
  | .inl z :: .inl i :: .inr (.inl (some a)) :: r, hw, hS =>
    unfold wpi at hw
    dsimp only at hw
    split at hw
    · rename_i t n ht
      obtain ⟨htt, ⟨h0, h1⟩, ⟨z0, z1⟩, hw⟩ := hw
      subst htt
      have hiR : inR i := okS_h (okS_t hS)
      have hzR : inR z := okS_h hS
      have hK := hC.2.2.2.2.2.2.2.2.2.2.1
      obtain ⟨hB, hn6, ⟨cell, c1, c2, c3, c4, c5⟩, hch⟩ := hr.arr hK ht (by decide) (by decide)
      have hA := (hK.2.1 21 (by decide) (by decide)).1 0 (fun _ => .null)
      have harr : s.isArrayOf cell .char := ⟨fun q => by rw [c3]; exact vm_s q, by rw [c2]; exact hA.2⟩
      have hin : i.toNat < n := by omega
      refine W.cast hC.1 hC.2.1 c1 harr (by rw [c3]; exact vm_u) (in_idx hiR h0 h1 (by omega)) rfl rfl hd (fun H' e1 e2 e3 => ?_)
      rw [i32_nat hiR h0] at e1 ⊢
      have hnar : narrow .char (.int (Int32.ofInt z)) = .int (Int32.ofInt z) := nar_char z0 z1
      rw [hnar] at e1
      have hrel : Rel D (hsetI h a i.toNat z) H' := by
        refine hr.upd hB ht rfl (fun b => rfl) (fun b hb j => ?_) (fun b hb j => ?_) (fun b hb j => ?_) (fun j => ?_) (fun j => ?_) e2 e3 (Or.inr ⟨by decide, by decide, hn6, CellA.set c2 c3 c4 c5 hin e1 ?_ (fun j hj => ?_), ?_⟩)
        · show (if b = a ∧ j = i.toNat then z else hvi h b j) = _; rw [if_neg (fun q => hb q.1)]
        · rfl
        · rfl
        · show inR (if a = a ∧ j = i.toNat then z else hvi h a j); split
          · exact hzR
          · exact hr.2.2.1 a j
        · exact hr.2.2.2.1 a j
        · show Value.int (Int32.ofInt (if a = a ∧ i.toNat = i.toNat then z else hvi h a i.toNat)) = _; rw [if_pos ⟨rfl, rfl⟩]
        · show Value.int (Int32.ofInt (if a = a ∧ j = i.toNat then z else hvi h a j)) = _; rw [if_neg (fun q => hj q.2)]; rfl
        · intro q j hj
          show 0 ≤ (if a = a ∧ j = i.toNat then z else hvi h a j) ∧ (if a = a ∧ j = i.toNat then z else hvi h a j) < 65536
          split
          · exact ⟨z0, z1⟩
          · exact hch q j hj
      exact go hw hn rfl hC hrel hL (okS_t (okS_t (okS_t hS))) hR hbc hbs (fun z hz => (List.mem_append.mp hz).elim (hlo z) (fun q => by rw [List.mem_singleton.mp q]; exact hB))
    · exact hw.elim
theorem si_bastore (ho : okE k pc (.bastore, nx, x, y) = true) (hw : wpi (dG D) (simP D KX) (.bastore, nx, x, y) d k pc ls st h bc bs Q X) : simP D KX d k pc ls st h bc bs Q X := by
  intro p l e R s m args below meth c H locs cells slots LS hC hr hL hS hR hbc hbs hlo
  obtain ⟨hd, hn⟩ := okE_dec ho (by simp [ilen])
  match st, hw, hS with
  | .inl z :: .inl i :: .inr (.inl (some a)) :: r, hw, hS =>
    unfold wpi at hw
    dsimp only at hw
    split at hw
    · rename_i t n ht
      obtain ⟨htt, ⟨h0, h1⟩, hz01, hw⟩ := hw
      subst htt
      have hiR : inR i := okS_h (okS_t hS)
      have hzR : inR z := okS_h hS
      have hK := hC.2.2.2.2.2.2.2.2.2.2.1
      obtain ⟨hB, hn6, ⟨cell, c1, c2, c3, c4, c5⟩, hch⟩ := hr.arr hK ht (by decide) (by decide)
      have hA := (hK.2.1 22 (by decide) (by decide)).1 0 (fun _ => .null)
      have harr : s.isArrayOf cell .boolean := ⟨fun q => by rw [c3]; exact vm_s q, by rw [c2]; exact hA.2⟩
      have hin : i.toNat < n := by omega
      refine W.zast hC.1 hC.2.1 c1 harr (by rw [c3]; exact vm_u) (in_idx hiR h0 h1 (by omega)) rfl rfl hd (fun H' e1 e2 e3 => ?_)
      rw [i32_nat hiR h0] at e1 ⊢
      have hnar : narrow .boolean (.int (Int32.ofInt z)) = .int (Int32.ofInt z) := nar_bool hz01
      rw [hnar] at e1
      have hrel : Rel D (hsetI h a i.toNat z) H' := by
        refine hr.upd hB ht rfl (fun b => rfl) (fun b hb j => ?_) (fun b hb j => ?_) (fun b hb j => ?_) (fun j => ?_) (fun j => ?_) e2 e3 (Or.inr ⟨by decide, by decide, hn6, CellA.set c2 c3 c4 c5 hin e1 ?_ (fun j hj => ?_), ?_⟩)
        · show (if b = a ∧ j = i.toNat then z else hvi h b j) = _; rw [if_neg (fun q => hb q.1)]
        · rfl
        · rfl
        · show inR (if a = a ∧ j = i.toNat then z else hvi h a j); split
          · exact hzR
          · exact hr.2.2.1 a j
        · exact hr.2.2.2.1 a j
        · show Value.int (Int32.ofInt (if a = a ∧ i.toNat = i.toNat then z else hvi h a i.toNat)) = _; rw [if_pos ⟨rfl, rfl⟩]
        · show Value.int (Int32.ofInt (if a = a ∧ j = i.toNat then z else hvi h a j)) = _; rw [if_neg (fun q => hj q.2)]; rfl
        · intro q; omega
      exact go hw hn rfl hC hrel hL (okS_t (okS_t (okS_t hS))) hR hbc hbs (fun z hz => (List.mem_append.mp hz).elim (hlo z) (fun q => by rw [List.mem_singleton.mp q]; exact hB))
    · exact hw.elim
theorem si_lastore (ho : okE k pc (.lastore, nx, x, y) = true) (hw : wpi (dG D) (simP D KX) (.lastore, nx, x, y) d k pc ls st h bc bs Q X) : simP D KX d k pc ls st h bc bs Q X := by
  intro p l e R s m args below meth c H locs cells slots LS hC hr hL hS hR hbc hbs hlo
  obtain ⟨hd, hn⟩ := okE_dec ho (by simp [ilen])
  match st, hw, hS with
  | .inr (.inr z) :: .inl i :: .inr (.inl (some a)) :: r, hw, hS =>
    unfold wpi at hw
    dsimp only at hw
    split at hw
    · rename_i t n ht
      obtain ⟨htt, ⟨h0, h1⟩, hw⟩ := hw
      subst htt
      have hiR : inR i := okS_h (okS_t hS)
      have hzR : inL z := okS_h hS
      have hK := hC.2.2.2.2.2.2.2.2.2.2.1
      obtain ⟨hB, hn6, ⟨cell, c1, c2, c3, c4, c5⟩, hch⟩ := hr.arr hK ht (by decide) (by decide)
      have hA := (hK.2.1 23 (by decide) (by decide)).1 0 (fun _ => .null)
      have harr : s.isArrayOf cell .long := ⟨fun q => by rw [c3]; exact vm_s q, by rw [c2]; exact hA.2⟩
      have hin : i.toNat < n := by omega
      refine W.last hC.1 hC.2.1 c1 harr (by rw [c3]; exact vm_u) (in_idx hiR h0 h1 (by omega)) rfl rfl hd (fun H' e1 e2 e3 => ?_)
      rw [i32_nat hiR h0] at e1 ⊢
      have hrel : Rel D (hsetL h a i.toNat z) H' := by
        refine hr.upd hB ht rfl (fun b => rfl) (fun b hb j => ?_) (fun b hb j => ?_) (fun b hb j => ?_) (fun j => ?_) (fun j => ?_) e2 e3 (Or.inr ⟨by decide, by decide, hn6, CellA.set c2 c3 c4 c5 hin e1 ?_ (fun j hj => ?_), ?_⟩)
        · rfl
        · rfl
        · show (if b = a ∧ j = i.toNat then z else hvl h b j) = _; rw [if_neg (fun q => hb q.1)]
        · exact hr.2.2.1 a j
        · show inL (if a = a ∧ j = i.toNat then z else hvl h a j); split
          · exact hzR
          · exact hr.2.2.2.1 a j
        · show Value.long (Int64.ofInt (if a = a ∧ i.toNat = i.toNat then z else hvl h a i.toNat)) = _; rw [if_pos ⟨rfl, rfl⟩]
        · show Value.long (Int64.ofInt (if a = a ∧ j = i.toNat then z else hvl h a j)) = _; rw [if_neg (fun q => hj q.2)]; rfl
        · intro q; omega
      exact go hw hn rfl hC hrel hL (okS_t (okS_t (okS_t hS))) hR hbc hbs (fun z hz => (List.mem_append.mp hz).elim (hlo z) (fun q => by rw [List.mem_singleton.mp q]; exact hB))
    · exact hw.elim
end Sim
