def Pc (n0 a : Nat) : Bool := decide (a < n0) || (decide (n0 + 27 ≤ a) && decide (a < n0 + 60))
def Pr (n0 z a : Nat) : Bool := decide (a < z) && !(decide (n0 + 27 ≤ a) && decide (a < n0 + 59))
theorem Pc_iff {n0 a : Nat} : Pc n0 a = true ↔ a < n0 ∨ (n0 + 27 ≤ a ∧ a < n0 + 60) := by simp [Pc]
theorem Pr_iff {n0 z a : Nat} : Pr n0 z a = true ↔ a < z ∧ ¬ (n0 + 27 ≤ a ∧ a < n0 + 59) := by simp [Pr]; omega
abbrev aQ : Type := List Int × aT × Nat × List Int × Int × Int
def CQ (c : Nat) (h : mH) (s : aQ) : Prop := CS c h s.1 s.2.1 s.2.2.1 s.2.2.2.1 s.2.2.2.2.1 s.2.2.2.2.2
def RQq (r : Nat) (h : mH) (Es : Nat → List aE) (s : aQ) : Prop := RS r h Es s.1 s.2.1 s.2.2.1 s.2.2.2.1 s.2.2.2.2.1 s.2.2.2.2.2
def IC (n0 : Nat) (H : mH) (s : aQ) : Prop := CQ n0 (er (Pc n0) H) s ∧ n0 + 60 ≤ hsz H
def IR (n0 : Nat) (H : mH) (s : aQ) : Prop := ∃ Es, RQq (n0 + 27) H Es s
def IK (n0 : Nat) (h0 H : mH) : Prop := (∀ a, a < n0 → hty H a = hty h0 a ∧ ∀ j, hvi H a j = hvi h0 a j) ∧ hty H (n0 + 59) = some (23, 1)
theorem IC_of {n0 : Nat} {H H' : mH} {s : aQ} (hI : IC n0 H s) (hz : hsz H' = hsz H) (hs : ∀ a, ¬ Pc n0 a = true → hty H' a = hty H a ∧ (¬ hty H a = none → ∀ j, hvr H' a j = hvr H a j ∧ hvi H' a j = hvi H a j)) : IC n0 H' s := by
  refine ⟨CS_fr (S := fun _ => False) hI.1 ⟨by rw [er_sz, er_sz, hz]; exact Nat.le_refl _, fun a ha => ?_⟩ (fun x hx => hx.elim) (fun a ha => ?_), by rw [hz]; exact hI.2⟩
  · rw [er_ty] at ha ⊢
    by_cases hp : Pc n0 a = true
    · rw [if_pos hp] at ha; exact absurd rfl ha
    · rw [if_neg hp] at ha
      obtain ⟨q1, q2⟩ := hs a hp
      refine ⟨by rw [if_neg hp, er_ty, if_neg hp, q1], fun _ j => ?_⟩
      exact q2 ha j
  · rw [er_ty]
    by_cases hp : Pc n0 a = true
    · rw [if_pos hp]
    · rw [if_neg hp, (hs a hp).1]
      have hf := hI.1.2.2.2.2.2.2.2.2.1 a (by rw [er_sz, hz] at ha; rw [er_sz]; exact ha)
      rw [er_ty, if_neg hp] at hf
      exact hf
theorem IR_of {n0 : Nat} {H H' : mH} {s : aQ} (hR : IR n0 H s) (hs : ∀ i, i < 32 → hty H' (n0 + 27 + i) = hty H (n0 + 27 + i) ∧ ∀ j, hvr H' (n0 + 27 + i) j = hvr H (n0 + 27 + i) j ∧ hvi H' (n0 + 27 + i) j = hvi H (n0 + 27 + i) j) : IR n0 H' s := by
  obtain ⟨Es, h⟩ := hR
  exact ⟨Es, RS_eq hs h⟩
theorem sep_c {n0 : Nat} {H : mH} (hz : n0 + 60 ≤ hsz H) : sepP (Pc n0) (er (Pc n0) H) := fun a ha => ⟨by have := Pc_iff.mp ha; rw [er_sz]; omega, by rw [er_ty, if_pos ha]⟩
theorem sep_r {n0 : Nat} {H : mH} : sepP (Pr n0 (hsz H)) (er (Pr n0 (hsz H)) H) := fun a ha => ⟨(Pr_iff.mp ha).1, by rw [er_ty, if_pos ha]⟩
/-- what a call of the class leaves -/
theorem cl_post {n0 : Nat} {h0 H h1 : mH} {s s2 : aQ} (hp : sepP (Pc n0) h1) (hc : CQ n0 h1 s) (hR : IR n0 H s2) (hK : IK n0 h0 H) : IC n0 (cmb (Pc n0) H h1) s ∧ IR n0 (cmb (Pc n0) H h1) s2 ∧ IK n0 h0 (cmb (Pc n0) H h1) := by
  have hin : ∀ a, Pc n0 a = true → hty (cmb (Pc n0) H h1) a = hty H a ∧ ∀ j, hvr (cmb (Pc n0) H h1) a j = hvr H a j ∧ hvi (cmb (Pc n0) H h1) a j = hvi H a j := fun a ha => ⟨by rw [cm_ty, if_pos ha], fun j => ⟨by rw [cm_vr, if_pos ha], by rw [cm_vi, if_pos ha]⟩⟩
  refine ⟨⟨CS_fr (S := fun _ => False) hc ⟨by rw [er_sz, cm_sz]; exact Nat.le_refl _, fun a ha => ?_⟩ (fun x hx => hx.elim) (fun a ha => ?_), ?_⟩, IR_of hR (fun i hi => hin _ (Pc_iff.mpr (by omega))), fun a ha => ⟨(hin a (Pc_iff.mpr (by omega))).1.trans (hK.1 a ha).1, fun j => ((hin a (Pc_iff.mpr (by omega))).2 j).2.trans ((hK.1 a ha).2 j)⟩, (hin _ (Pc_iff.mpr (by omega))).1.trans hK.2⟩
  · have hnp : ¬ Pc n0 a = true := fun q => ha (hp a q).2
    refine ⟨by rw [er_ty, if_neg hnp, cm_ty, if_neg hnp], fun _ j => ⟨?_, ?_⟩⟩
    · rw [er_vr, cm_vr, if_neg hnp]
    · rw [er_vi, cm_vi, if_neg hnp]
  · rw [er_ty]
    by_cases hq : Pc n0 a = true
    · rw [if_pos hq]
    · rw [if_neg hq, cm_ty, if_neg hq]
      exact hc.2.2.2.2.2.2.2.2.1 a (by rw [er_sz, cm_sz] at ha; exact ha)
  · have := (hp (n0 + 59) (Pc_iff.mpr (by omega))).1
    rw [cm_sz]; omega
theorem cl_st {G : Nat → Nat} {d kk mc ms mx n0 : Nat} {args : List mV} {h0 H : mH} {C : mQ} {X : mX} {s s2 : aQ} {R : Option mV → aQ → Prop} {E : Nat → Prop} (hI : IC n0 H s) (hR : IR n0 H s2) (hK : IK n0 h0 H)
    (hw : callG (wp G) d kk mc ms mx args (er (Pc n0) H) (fun v h1 => ∃ s', CQ n0 h1 s' ∧ R v s') (fun e h1 => E e ∧ ∃ z, hsz H ≤ z ∧ h1 = hgrow (er (Pc n0) H) z))
    (hC : ∀ v s' H', R v s' → IC n0 H' s' → IR n0 H' s2 → IK n0 h0 H' → C v H') (hX : ∀ e H', E e → IC n0 H' s → IR n0 H' s2 → IK n0 h0 H' → X e H') : callG (wp G) d kk mc ms mx args H C X := by
  have h1 := call_fr (f := H) (sep_c hI.2) hw
  rw [er_cmb] at h1
  refine callG_mono (fun _ _ _ _ _ _ _ _ _ _ q => q) (fun v H' q => ?_) (fun e H' q => ?_) h1
  · obtain ⟨g, rfl, hp, s', hc, hr⟩ := q
    obtain ⟨a, b, c⟩ := cl_post hp hc hR hK
    exact hC v s' _ hr a b c
  · obtain ⟨g, rfl, hp, he, z, hz, rfl⟩ := q
    obtain ⟨a, b, c⟩ := cl_post hp (CS_grow hI.1 (by rw [er_sz]; exact hz)) hR hK
    exact hX e _ he a b c
theorem rf_st {G : Nat → Nat} {d kk ms mx n0 : Nat} {args : List mV} {h0 H : mH} {C : mQ} {X : mX} {s s2 : aQ} {R : Option mV → Int → aQ → Prop} (hI : IC n0 H s) (hR : IR n0 H s2) (hK : IK n0 h0 H)
    (hw : ∀ Es, RQq (n0 + 27) (er (Pr n0 (hsz H)) H) Es s2 → callG (wp G) d kk 0 ms mx args (er (Pr n0 (hsz H)) H) (fun v h1 => ∃ Es s', RQq (n0 + 27) h1 Es s' ∧ R v (hvi h1 (n0 + 27) 0) s') (fun _ _ => False))
    (hC : ∀ v s' H', R v (hvi H' (n0 + 27) 0) s' → IC n0 H' s → IR n0 H' s' → IK n0 h0 H' → hvl H' (n0 + 59) 0 = hvl H (n0 + 59) 0 → C v H') : callG (wp G) d kk 0 ms mx args H C X := by
  obtain ⟨Es, hRS⟩ := hR
  have hz := hI.2
  have n1 : ∀ i, i < 32 → ¬ Pr n0 (hsz H) (n0 + 27 + i) = true := fun i hi q => by have := Pr_iff.mp q; omega
  have hRS' : RQq (n0 + 27) (er (Pr n0 (hsz H)) H) Es s2 := RS_eq (h := H) (fun i hi => ⟨by rw [er_ty, if_neg (n1 i hi)], fun j => ⟨rfl, rfl⟩⟩) hRS
  have h1 := call_fr (f := H) sep_r (call_kp (hw Es hRS'))
  rw [er_cmb] at h1
  refine callG_mono (fun _ _ _ _ _ _ _ _ _ _ q => q) (fun v H' q => ?_) (fun e H' q => ?_) h1
  · obtain ⟨g, rfl, hp, ⟨Es', s', hs', hr⟩, hsam⟩ := q
    have hin : ∀ a, Pr n0 (hsz H) a = true → hty (cmb (Pr n0 (hsz H)) H g) a = hty H a ∧ ∀ j, hvr (cmb (Pr n0 (hsz H)) H g) a j = hvr H a j ∧ hvi (cmb (Pr n0 (hsz H)) H g) a j = hvi H a j := fun a ha => ⟨by rw [cm_ty, if_pos ha], fun j => ⟨by rw [cm_vr, if_pos ha], by rw [cm_vi, if_pos ha]⟩⟩
    refine hC v s' _ ?_ (IC_of hI (by rw [cm_sz, hsam.1, er_sz]) (fun a ha => ?_)) ⟨Es', RS_eq (fun i hi => ⟨by rw [cm_ty, if_neg (n1 i hi)], fun j => ⟨by rw [cm_vr, if_neg (n1 i hi)], by rw [cm_vi, if_neg (n1 i hi)]⟩⟩) hs'⟩ ⟨fun a ha => ?_, ?_⟩ ?_
    · rw [cm_vi, if_neg (by have := n1 0 (by omega); simpa using this)]; exact hr
    · have hnc : ¬ (a < n0 ∨ (n0 + 27 ≤ a ∧ a < n0 + 60)) := fun q => ha (Pc_iff.mpr q)
      by_cases hpa : Pr n0 (hsz H) a = true
      · exact ⟨(hin a hpa).1, fun _ => (hin a hpa).2⟩
      · have haz : hsz H ≤ a := by
          have : ¬ (a < hsz H ∧ ¬ (n0 + 27 ≤ a ∧ a < n0 + 59)) := fun q => hpa (Pr_iff.mpr q)
          omega
        have hnone : hty H a = none := by
          have hf := hI.1.2.2.2.2.2.2.2.2.1 a (by rw [er_sz]; exact haz)
          rw [er_ty, if_neg ha] at hf
          exact hf
        refine ⟨?_, fun q => absurd hnone q⟩
        rw [cm_ty, if_neg hpa, hsam.2, er_ty, if_neg hpa]
    · have hpa : Pr n0 (hsz H) a = true := Pr_iff.mpr (by omega)
      exact ⟨(hin a hpa).1.trans (hK.1 a ha).1, fun j => ((hin a hpa).2 j).2.trans ((hK.1 a ha).2 j)⟩
    · exact (hin _ (Pr_iff.mpr (by omega))).1.trans hK.2
    · rw [cm_vl, if_pos (Pr_iff.mpr (by omega))]
  · obtain ⟨g, -, -, hf, -⟩ := q
    exact hf.elim
theorem IC_L {n0 a j : Nat} {H : mH} {v : Int} {s : aQ} (h : IC n0 H s) : IC n0 (hsetL H a j v) s := IC_of h rfl (fun _ _ => ⟨rfl, fun _ _ => ⟨rfl, rfl⟩⟩)
theorem IR_L {n0 a j : Nat} {H : mH} {v : Int} {s : aQ} (h : IR n0 H s) : IR n0 (hsetL H a j v) s := IR_of h (fun _ _ => ⟨rfl, fun _ => ⟨rfl, rfl⟩⟩)
theorem IK_L {n0 a j : Nat} {h0 H : mH} {v : Int} (h : IK n0 h0 H) : IK n0 h0 (hsetL H a j v) := h
