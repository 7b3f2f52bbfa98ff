/-! THE LAW: calls that may throw -/
theorem IC_ty {n0 : Nat} {H : mH} {s : aQ} (h : IC n0 H s) : hty H n0 = some (10, 7) := by
  have h1 : hty (er (Pc n0) H) n0 = some (10, 7) := h.1.1.1 (0, 10, 7) (by decide)
  have hn : ¬ Pc n0 n0 = true := fun q => by have := Pc_iff.mp q; omega
  rw [er_ty, if_neg hn] at h1
  exact h1
theorem k_type {G : Nat → Nat} {d n0 : Nat} {h0 H : mH} {C : mQ} {X : mX} {s s2 : aQ} {a b e f g : Int} (hd : 2 ≤ d) (hI : IC n0 H s) (hR : IR n0 H s2) (hK : IK n0 h0 H)
    (hC : (s.1 ++ tyA a b e f g).length ≤ 100 → ∀ H', IC n0 H' (s.1 ++ tyA a b e f g, s.2) → IR n0 H' s2 → IK n0 h0 H' → C (some (.inl ((s.1 ++ tyA a b e f g).length : Int))) H') (hX : ¬ (s.1 ++ tyA a b e f g).length ≤ 100 → ∀ H', IC n0 H' s → IR n0 H' s2 → IK n0 h0 H' → X 0 H') :
    callG (wp G) d 70 1 6 7 [.inr (.inl (some n0)), .inl a, .inl b, .inl e, .inl f, .inl g] H C X :=
  cl_st (R := fun v s' => (s.1 ++ tyA a b e f g).length ≤ 100 ∧ v = some (.inl ((s.1 ++ tyA a b e f g).length : Int)) ∧ s' = (s.1 ++ tyA a b e f g, s.2)) (E := fun x => ¬ (s.1 ++ tyA a b e f g).length ≤ 100 ∧ x = 0) hI hR hK (p_type hd hI.1 (fun hn z hz => ⟨⟨hn, rfl⟩, z, hz, rfl⟩) (fun hy h' hc => ⟨(s.1 ++ tyA a b e f g, s.2), hc, hy, rfl, rfl⟩)) (fun v s' H' hr i1 i2 i3 => by obtain ⟨r1, rfl, rfl⟩ := hr; exact hC r1 H' i1 i2 i3) (fun x H' hx i1 i2 i3 => by obtain ⟨r1, rfl⟩ := hx; exact hX r1 H' i1 i2 i3)
theorem k_make {G : Nat → Nat} {d n0 : Nat} {h0 H : mH} {C : mQ} {X : mX} {s s2 : aQ} {Z D : Int} {dir : Bool} (hd : 9 ≤ d) (hI : IC n0 H s) (hR : IR n0 H s2) (hK : IK n0 h0 H)
    (hC : ((0 ≤ Z ∧ Z ≤ 999999) ∧ (0 ≤ D ∧ D ≤ 999999)) → ∀ H', IC n0 H' (s.1, mkT s.2.1 s.2.2.1 s.1 0 (mkV dir Z D), s.2.2) → IR n0 H' s2 → IK n0 h0 H' → C (some (.inl (mkR s.2.1 s.2.2.1 s.1 0))) H') (hX : ¬ ((0 ≤ Z ∧ Z ≤ 999999) ∧ (0 ≤ D ∧ D ≤ 999999)) → ∀ H', IC n0 H' s → IR n0 H' s2 → IK n0 h0 H' → X 1 H') :
    callG (wp G) d 72 9 352 6 [.inr (.inl (some n0)), .inl (b01 dir), .inl Z, .inl D] H C X :=
  cl_st (R := fun v s' => ((0 ≤ Z ∧ Z ≤ 999999) ∧ (0 ≤ D ∧ D ≤ 999999)) ∧ v = some (.inl (mkR s.2.1 s.2.2.1 s.1 0)) ∧ s' = (s.1, mkT s.2.1 s.2.2.1 s.1 0 (mkV dir Z D), s.2.2)) (E := fun x => ¬ ((0 ≤ Z ∧ Z ≤ 999999) ∧ (0 ≤ D ∧ D ≤ 999999)) ∧ x = 1) hI hR hK (p_make hd hI.1 (fun hn z hz => ⟨⟨hn, rfl⟩, z, hz, rfl⟩) (fun hy h' hc => ⟨(s.1, mkT s.2.1 s.2.2.1 s.1 0 (mkV dir Z D), s.2.2), hc, hy, rfl, rfl⟩)) (fun v s' H' hr i1 i2 i3 => by obtain ⟨r1, rfl, rfl⟩ := hr; exact hC r1 H' i1 i2 i3) (fun x H' hx i1 i2 i3 => by obtain ⟨r1, rfl⟩ := hx; exact hX r1 H' i1 i2 i3)
theorem k_link {G : Nat → Nat} {d n0 : Nat} {h0 H : mH} {C : mQ} {X : mX} {s s2 : aQ} {D : Int} (hd : 9 ≤ d) (hI : IC n0 H s) (hR : IR n0 H s2) (hK : IK n0 h0 H)
    (hC : (0 ≤ D ∧ D ≤ 999999) → ∀ H', IC n0 H' (s.1, lkT s.2.1 s.2.2.1 s.1 D, s.2.2) → IR n0 H' s2 → IK n0 h0 H' → C (some (.inl (lkR s.2.1 s.2.2.1 s.1))) H') (hX : ¬ (0 ≤ D ∧ D ≤ 999999) → ∀ H', IC n0 H' s → IR n0 H' s2 → IK n0 h0 H' → X 1 H') :
    callG (wp G) d 73 6 230 5 [.inr (.inl (some n0)), .inl D] H C X :=
  cl_st (R := fun v s' => (0 ≤ D ∧ D ≤ 999999) ∧ v = some (.inl (lkR s.2.1 s.2.2.1 s.1)) ∧ s' = (s.1, lkT s.2.1 s.2.2.1 s.1 D, s.2.2)) (E := fun x => ¬ (0 ≤ D ∧ D ≤ 999999) ∧ x = 1) hI hR hK (p_link hd hI.1 (fun hn z hz => ⟨⟨hn, rfl⟩, z, hz, rfl⟩) (fun hy h' hc => ⟨(s.1, lkT s.2.1 s.2.2.1 s.1 D, s.2.2), hc, hy, rfl, rfl⟩)) (fun v s' H' hr i1 i2 i3 => by obtain ⟨r1, rfl, rfl⟩ := hr; exact hC r1 H' i1 i2 i3) (fun x H' hx i1 i2 i3 => by obtain ⟨r1, rfl⟩ := hx; exact hX r1 H' i1 i2 i3)
theorem k_bits {G : Nat → Nat} {d n0 : Nat} {h0 H : mH} {C : mQ} {X : mX} {s s2 : aQ} {b : Int} (hd : 8 ≤ d) (hI : IC n0 H s) (hR : IR n0 H s2) (hK : IK n0 h0 H)
    (hC : (0 ≤ b ∧ b ≤ 7) → ∀ H', IC n0 H' (s.1, biT s.2.1 s.2.2.1 s.1 b, s.2.2) → IR n0 H' s2 → IK n0 h0 H' → C (some (.inl (biR s.2.1 s.2.2.1 s.1))) H') (hX : ¬ (0 ≤ b ∧ b ≤ 7) → ∀ H', IC n0 H' s → IR n0 H' s2 → IK n0 h0 H' → X 1 H') :
    callG (wp G) d 76 1 6 5 [.inr (.inl (some n0)), .inl b] H C X :=
  cl_st (R := fun v s' => (0 ≤ b ∧ b ≤ 7) ∧ v = some (.inl (biR s.2.1 s.2.2.1 s.1)) ∧ s' = (s.1, biT s.2.1 s.2.2.1 s.1 b, s.2.2)) (E := fun x => ¬ (0 ≤ b ∧ b ≤ 7) ∧ x = 1) hI hR hK (p_bits hd hI.1 (fun hn z hz => ⟨⟨hn, rfl⟩, z, hz, rfl⟩) (fun hy h' hc => ⟨(s.1, biT s.2.1 s.2.2.1 s.1 b, s.2.2), hc, hy, rfl, rfl⟩)) (fun v s' H' hr i1 i2 i3 => by obtain ⟨r1, rfl, rfl⟩ := hr; exact hC r1 H' i1 i2 i3) (fun x H' hx i1 i2 i3 => by obtain ⟨r1, rfl⟩ := hx; exact hX r1 H' i1 i2 i3)
theorem k_tell {G : Nat → Nat} {d n0 : Nat} {h0 H : mH} {C : mQ} {X : mX} {s s2 : aQ} {z w : Int} (hd : 2 ≤ d) (hI : IC n0 H s) (hR : IR n0 H s2) (hK : IK n0 h0 H)
    (hC : ∀ v, tlN s.2.1 z = some v → ∀ H', IC n0 H' s → IR n0 H' s2 → IK n0 h0 H' → C (some (.inl (telR v w))) H') (hX : tlN s.2.1 z = none → ∀ H', IC n0 H' s → IR n0 H' s2 → IK n0 h0 H' → X 2 H') :
    callG (wp G) d 83 1 6 4 [.inr (.inl (some n0)), .inl z, .inl w] H C X :=
  cl_st (R := fun v s' => s' = s ∧ ∃ v0, tlN s.2.1 z = some v0 ∧ v = some (.inl (telR v0 w))) (E := fun x => tlN s.2.1 z = none ∧ x = 2) hI hR hK (p_tell hd hI.1 (fun hn y hy => ⟨⟨hn, rfl⟩, y, hy, rfl⟩) (fun v hv => ⟨s, hI.1, rfl, v, hv, rfl⟩)) (fun v s' H' hr i1 i2 i3 => by obtain ⟨rfl, v0, r1, rfl⟩ := hr; exact hC v0 r1 H' i1 i2 i3) (fun x H' hx i1 i2 i3 => by obtain ⟨r1, rfl⟩ := hx; exact hX r1 H' i1 i2 i3)
/-- find reads DOT -/
theorem k_find {G : Nat → Nat} {d n0 : Nat} {h0 H : mH} {C : mQ} {X : mX} {s s2 : aQ} {pr : Int} (hd : 110 ≤ d) (hg0 : G 0 < n0) (hg1 : hty h0 (G 0) = some (51, 1)) (hg2 : hvi h0 (G 0) 0 = 46) (hI : IC n0 H s) (hR : IR n0 H s2) (hK : IK n0 h0 H)
    (hC : (0 ≤ pr ∧ pr ≤ 999999) → ∀ H', IC n0 H' (s.1, s.2.1, s.2.2.1, fiO s.2.1 s.2.2.1 s.1 pr, fiC s.2.1 s.2.2.1 s.1 pr, (fdK s.1).1) → IR n0 H' s2 → IK n0 h0 H' → C (some (.inl (fiR s.2.1 s.2.2.1 s.1 pr))) H') (hX : ¬ (0 ≤ pr ∧ pr ≤ 999999) → ∀ H', IC n0 H' s → IR n0 H' s2 → IK n0 h0 H' → X 1 H') :
    callG (wp G) d 80 1 6 5 [.inr (.inl (some n0)), .inl pr] H C X := by
  let P : Nat → Bool := fun a => Pc n0 a && !(a == G 0)
  have hP : ∀ a, P a = true ↔ Pc n0 a = true ∧ ¬ a = G 0 := fun a => by show (Pc n0 a && !(a == G 0)) = true ↔ _; simp
  have hPg : ¬ P (G 0) = true := fun q => ((hP _).mp q).2 rfl
  have hcg : Pc n0 (G 0) = true := Pc_iff.mpr (Or.inl hg0)
  have hsep : sepP P (er P H) := fun a ha => ⟨(sep_c hI.2 a ((hP a).mp ha).1).1, by rw [er_ty, if_pos ha]⟩
  have hg : hty (er P H) (G 0) = some (51, 1) := by rw [er_ty, if_neg hPg, (hK.1 _ hg0).1]; exact hg1
  have hgv : hvi (er P H) (G 0) 0 = 46 := by rw [er_vi, (hK.1 _ hg0).2]; exact hg2
  have hCS : CQ n0 (er P H) s := by
    refine CS_fr (S := fun _ => False) hI.1 ⟨Nat.le_refl _, fun a ha => ?_⟩ (fun x hx => hx.elim) (fun a ha => ?_)
    · rw [er_ty] at ha
      by_cases hp : Pc n0 a = true
      · rw [if_pos hp] at ha; exact absurd rfl ha
      · exact ⟨by rw [er_ty, if_neg (fun q => hp ((hP a).mp q).1), er_ty, if_neg hp], fun _ j => ⟨rfl, rfl⟩⟩
    · have hf := hI.1.2.2.2.2.2.2.2.2.1 a ha
      have hnc : ¬ Pc n0 a = true := fun q => by have := (sep_c hI.2 a q).1; rw [er_sz] at this ha; omega
      rw [er_ty, if_neg hnc] at hf
      rw [er_ty, if_neg (fun q => hnc ((hP a).mp q).1)]
      exact hf
  -- back
  have back : ∀ (h1 : mH) (s' : aQ), sepP P h1 → CQ n0 h1 s' → hty h1 (G 0) = some (51, 1) → (∀ j, hvi h1 (G 0) j = hvi H (G 0) j) → IC n0 (cmb P H h1) s' ∧ IR n0 (cmb P H h1) s2 ∧ IK n0 h0 (cmb P H h1) := by
    intro h1 s' hp hc k1 k2
    have hin : ∀ a, P a = true → hty (cmb P H h1) a = hty H a ∧ ∀ j, hvr (cmb P H h1) a j = hvr H a j ∧ hvi (cmb P H h1) a j = hvi H a j := fun a ha => ⟨by rw [cm_ty, if_pos ha], fun j => ⟨by rw [cm_vr, if_pos ha], by rw [cm_vi, if_pos ha]⟩⟩
    have hz60 : n0 + 60 ≤ hsz h1 := by
      have := (hp (n0 + 59) ((hP _).mpr ⟨Pc_iff.mpr (by omega), by omega⟩)).1
      omega
    have hA : CQ n0 (er P (cmb P H h1)) s' := by
      refine CS_fr (S := fun _ => False) hc ⟨by rw [er_sz, cm_sz]; exact Nat.le_refl _, fun a ha => ?_⟩ (fun x hx => hx.elim) (fun a ha => ?_)
      · have hnp : ¬ P a = true := fun q => ha (hp a q).2
        refine ⟨by rw [er_ty, if_neg hnp, cm_ty, if_neg hnp], fun _ j => ⟨?_, ?_⟩⟩
        · rw [er_vr, cm_vr, if_neg hnp]
        · rw [er_vi, cm_vi, if_neg hnp]
      · rw [er_ty]
        by_cases hq : P a = true
        · rw [if_pos hq]
        · rw [if_neg hq, cm_ty, if_neg hq]
          exact hc.2.2.2.2.2.2.2.2.1 a (by rw [er_sz, cm_sz] at ha; exact ha)
    have hB : CQ n0 (er (Pc n0) (cmb P H h1)) s' := by
      refine CS_ut (g := G 0) (h := er P (cmb P H h1)) ⟨rfl, fun a ha => ⟨?_, fun j => ⟨rfl, rfl⟩⟩⟩ (by rw [er_ty, if_neg hPg, cm_ty, if_neg hPg]; exact k1) (by rw [er_ty, if_pos hcg]) hA
      rw [er_ty, er_ty]
      by_cases hq : P a = true
      · rw [if_pos hq, if_pos ((hP a).mp hq).1]
      · rw [if_neg hq, if_neg (fun q => hq ((hP a).mpr ⟨q, ha⟩))]
    refine ⟨⟨hB, by rw [cm_sz]; exact hz60⟩, IR_of hR (fun i hi => hin _ ((hP _).mpr ⟨Pc_iff.mpr (by omega), by omega⟩)), fun a ha => ?_, (hin _ ((hP _).mpr ⟨Pc_iff.mpr (by omega), by omega⟩)).1.trans hK.2⟩
    · by_cases hag : a = G 0
      · subst hag
        exact ⟨by rw [cm_ty, if_neg hPg, k1]; exact hg1.symm, fun j => by rw [cm_vi, if_neg hPg, k2 j]; exact (hK.1 _ ha).2 j⟩
      · have hpa : P a = true := (hP a).mpr ⟨Pc_iff.mpr (Or.inl ha), hag⟩
        exact ⟨(hin a hpa).1.trans (hK.1 a ha).1, fun j => ((hin a hpa).2 j).2.trans ((hK.1 a ha).2 j)⟩
  have h1 := call_fr (f := H) hsep (p_find (C := fun v h' => (0 ≤ pr ∧ pr ≤ 999999) ∧ CQ n0 h' (s.1, s.2.1, s.2.2.1, fiO s.2.1 s.2.2.1 s.1 pr, fiC s.2.1 s.2.2.1 s.1 pr, (fdK s.1).1) ∧ dtK (er P H) h' (G 0) ∧ v = some (.inl (fiR s.2.1 s.2.2.1 s.1 pr))) (X := fun e h' => e = 1 ∧ ¬ (0 ≤ pr ∧ pr ≤ 999999) ∧ ∃ z, hsz H ≤ z ∧ h' = hgrow (er P H) z) hd hCS hg hgv (fun hn z hz => ⟨rfl, hn, z, hz, rfl⟩) (fun hy h' hc hdt => ⟨hy, hc, hdt, rfl⟩))
  rw [er_cmb] at h1
  refine callG_mono (fun _ _ _ _ _ _ _ _ _ _ q => q) (fun v H' q => ?_) (fun e H' q => ?_) h1
  · obtain ⟨g, rfl, hp, hy, hc, hdt, rfl⟩ := q
    obtain ⟨a, b, c⟩ := back g _ hp hc (by rw [hdt.1]; exact hg) (fun j => by rw [hdt.2 j]; rfl)
    exact hC hy _ a b c
  · obtain ⟨g, rfl, hp, rfl, hn, z, hz, rfl⟩ := q
    obtain ⟨a, b, c⟩ := back _ s hp (CS_grow hCS (by rw [er_sz]; exact hz)) hg (fun j => rfl)
    exact hX hn _ a b c
