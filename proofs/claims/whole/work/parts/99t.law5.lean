/-! THE LAW: calls that do not throw, and the reference -/
theorem k_erase {G : Nat → Nat} {d n0 : Nat} {h0 H : mH} {C : mQ} {X : mX} {s s2 : aQ} (hd : 2 ≤ d) (hI : IC n0 H s) (hR : IR n0 H s2) (hK : IK n0 h0 H)
    (hC : ∀ H', IC n0 H' ([], s.2) → IR n0 H' s2 → IK n0 h0 H' → C (some (.inl ((s.1.length : Int)))) H') :
    callG (wp G) d 71 0 0 2 [.inr (.inl (some n0))] H C X :=
  cl_st (R := fun v s' => v = some (.inl ((s.1.length : Int))) ∧ s' = ([], s.2)) (E := fun _ => False) hI hR hK (p_erase hd hI.1 (fun h' hc => ⟨([], s.2), hc, rfl, rfl⟩)) (fun v s' H' hr i1 i2 i3 => by obtain ⟨rfl, rfl⟩ := hr; exact hC H' i1 i2 i3) (fun x H' hx => hx.elim)
theorem k_tie {G : Nat → Nat} {d n0 : Nat} {h0 H : mH} {C : mQ} {X : mX} {s s2 : aQ} (hd : 9 ≤ d) (hI : IC n0 H s) (hR : IR n0 H s2) (hK : IK n0 h0 H)
    (hC : ∀ H', IC n0 H' (s.1, tiT s.2.1 s.2.2.1 s.1, s.2.2) → IR n0 H' s2 → IK n0 h0 H' → C (some (.inl (tiR s.2.1 s.2.2.1 s.1))) H') :
    callG (wp G) d 74 2 102 3 [.inr (.inl (some n0))] H C X :=
  cl_st (R := fun v s' => v = some (.inl (tiR s.2.1 s.2.2.1 s.1)) ∧ s' = (s.1, tiT s.2.1 s.2.2.1 s.1, s.2.2)) (E := fun _ => False) hI hR hK (p_tie hd hI.1 (fun h' hc => ⟨(s.1, tiT s.2.1 s.2.2.1 s.1, s.2.2), hc, rfl, rfl⟩)) (fun v s' H' hr i1 i2 i3 => by obtain ⟨rfl, rfl⟩ := hr; exact hC H' i1 i2 i3) (fun x H' hx => hx.elim)
theorem k_drop {G : Nat → Nat} {d n0 : Nat} {h0 H : mH} {C : mQ} {X : mX} {s s2 : aQ} (hd : 8 ≤ d) (hI : IC n0 H s) (hR : IR n0 H s2) (hK : IK n0 h0 H)
    (hC : ∀ H', IC n0 H' (s.1, drT s.2.1 s.2.2.1 s.1, s.2.2) → IR n0 H' s2 → IK n0 h0 H' → C (some (.inl (drR s.2.1 s.2.2.1 s.1))) H') :
    callG (wp G) d 75 0 0 4 [.inr (.inl (some n0))] H C X :=
  cl_st (R := fun v s' => v = some (.inl (drR s.2.1 s.2.2.1 s.1)) ∧ s' = (s.1, drT s.2.1 s.2.2.1 s.1, s.2.2)) (E := fun _ => False) hI hR hK (p_drop hd hI.1 (fun h' hc => ⟨(s.1, drT s.2.1 s.2.2.1 s.1, s.2.2), hc, rfl, rfl⟩)) (fun v s' H' hr i1 i2 i3 => by obtain ⟨rfl, rfl⟩ := hr; exact hC H' i1 i2 i3) (fun x H' hx => hx.elim)
theorem k_go {G : Nat → Nat} {d n0 : Nat} {h0 H : mH} {C : mQ} {X : mX} {s s2 : aQ} (hd : 8 ≤ d) (hI : IC n0 H s) (hR : IR n0 H s2) (hK : IK n0 h0 H)
    (hC : ∀ H', IC n0 H' (s.1, s.2.1, (if 0 ≤ goR s.2.1 s.2.2.1 s.1 then (goR s.2.1 s.2.2.1 s.1).toNat else s.2.2.1), s.2.2.2) → IR n0 H' s2 → IK n0 h0 H' → C (some (.inl (goR s.2.1 s.2.2.1 s.1))) H') :
    callG (wp G) d 77 0 0 3 [.inr (.inl (some n0))] H C X :=
  cl_st (R := fun v s' => v = some (.inl (goR s.2.1 s.2.2.1 s.1)) ∧ s' = (s.1, s.2.1, (if 0 ≤ goR s.2.1 s.2.2.1 s.1 then (goR s.2.1 s.2.2.1 s.1).toNat else s.2.2.1), s.2.2.2)) (E := fun _ => False) hI hR hK (p_go hd hI.1 (fun h' hc => ⟨(s.1, s.2.1, (if 0 ≤ goR s.2.1 s.2.2.1 s.1 then (goR s.2.1 s.2.2.1 s.1).toNat else s.2.2.1), s.2.2.2), hc, rfl, rfl⟩)) (fun v s' H' hr i1 i2 i3 => by obtain ⟨rfl, rfl⟩ := hr; exact hC H' i1 i2 i3) (fun x H' hx => hx.elim)
theorem k_node {G : Nat → Nat} {d n0 : Nat} {h0 H : mH} {C : mQ} {X : mX} {s s2 : aQ} {fol : Bool} (hd : 8 ≤ d) (hI : IC n0 H s) (hR : IR n0 H s2) (hK : IK n0 h0 H)
    (hC : ∀ H', IC n0 H' s → IR n0 H' s2 → IK n0 h0 H' → C (some (.inl ((nwR s.2.1 s.2.2.1 s.1 0 fol).1))) H') :
    callG (wp G) d 78 0 0 2 [.inr (.inl (some n0)), .inl (b01 fol)] H C X :=
  cl_st (R := fun v s' => v = some (.inl ((nwR s.2.1 s.2.2.1 s.1 0 fol).1)) ∧ s' = s) (E := fun _ => False) hI hR hK (p_node hd hI.1 (fun h' hc => ⟨s, hc, rfl, rfl⟩)) (fun v s' H' hr i1 i2 i3 => by obtain ⟨rfl, rfl⟩ := hr; exact hC H' i1 i2 i3) (fun x H' hx => hx.elim)
theorem k_real {G : Nat → Nat} {d n0 : Nat} {h0 H : mH} {C : mQ} {X : mX} {s s2 : aQ} (hd : 8 ≤ d) (hI : IC n0 H s) (hR : IR n0 H s2) (hK : IK n0 h0 H)
    (hC : ∀ H', IC n0 H' (s.1, s.2.1, s.2.2.1, reO s.2.1 s.2.2.1 s.1 s.2.2.2.1, s.2.2.2.2) → IR n0 H' s2 → IK n0 h0 H' → C (some (.inl (reR s.2.1 s.2.2.1 s.1))) H') :
    callG (wp G) d 79 0 0 5 [.inr (.inl (some n0))] H C X :=
  cl_st (R := fun v s' => v = some (.inl (reR s.2.1 s.2.2.1 s.1)) ∧ s' = (s.1, s.2.1, s.2.2.1, reO s.2.1 s.2.2.1 s.1 s.2.2.2.1, s.2.2.2.2)) (E := fun _ => False) hI hR hK (p_real hd hI.1 (fun h' hc => ⟨(s.1, s.2.1, s.2.2.1, reO s.2.1 s.2.2.1 s.1 s.2.2.2.1, s.2.2.2.2), hc, rfl, rfl⟩)) (fun v s' H' hr i1 i2 i3 => by obtain ⟨rfl, rfl⟩ := hr; exact hC H' i1 i2 i3) (fun x H' hx => hx.elim)
theorem k_place {G : Nat → Nat} {d n0 : Nat} {h0 H : mH} {C : mQ} {X : mX} {s s2 : aQ} (hI : IC n0 H s) (hR : IR n0 H s2) (hK : IK n0 h0 H)
    (hC : ∀ H', IC n0 H' s → IR n0 H' s2 → IK n0 h0 H' → C (some (.inl (s.2.2.2.2.2))) H') :
    callG (wp G) d 81 0 0 1 [.inr (.inl (some n0))] H C X :=
  cl_st (R := fun v s' => v = some (.inl (s.2.2.2.2.2)) ∧ s' = s) (E := fun _ => False) hI hR hK (p_place hI.1 ⟨s, hI.1, rfl, rfl⟩) (fun v s' H' hr i1 i2 i3 => by obtain ⟨rfl, rfl⟩ := hr; exact hC H' i1 i2 i3) (fun x H' hx => hx.elim)
theorem k_output {G : Nat → Nat} {d n0 : Nat} {h0 H : mH} {C : mQ} {X : mX} {s s2 : aQ} {z : Int} (hI : IC n0 H s) (hR : IR n0 H s2) (hK : IK n0 h0 H)
    (hC : ∀ H', IC n0 H' s → IR n0 H' s2 → IK n0 h0 H' → C (some (.inl (outR s.2.2.2.1 z))) H') :
    callG (wp G) d 82 0 0 2 [.inr (.inl (some n0)), .inl z] H C X :=
  cl_st (R := fun v s' => v = some (.inl (outR s.2.2.2.1 z)) ∧ s' = s) (E := fun _ => False) hI hR hK (p_output hI.1 ⟨s, hI.1, rfl, rfl⟩) (fun v s' H' hr i1 i2 i3 => by obtain ⟨rfl, rfl⟩ := hr; exact hC H' i1 i2 i3) (fun x H' hx => hx.elim)
theorem k_count {G : Nat → Nat} {d n0 : Nat} {h0 H : mH} {C : mQ} {X : mX} {s s2 : aQ} {w : Int} (hI : IC n0 H s) (hR : IR n0 H s2) (hK : IK n0 h0 H)
    (hC : ∀ H', IC n0 H' s → IR n0 H' s2 → IK n0 h0 H' → C (some (.inl (couR s.2.1 s.2.2.2.1 s.2.2.2.2.1 w))) H') :
    callG (wp G) d 84 0 0 2 [.inr (.inl (some n0)), .inl w] H C X :=
  cl_st (R := fun v s' => v = some (.inl (couR s.2.1 s.2.2.2.1 s.2.2.2.2.1 w)) ∧ s' = s) (E := fun _ => False) hI hR hK (p_count hI.1 ⟨s, hI.1, rfl, rfl⟩) (fun v s' H' hr i1 i2 i3 => by obtain ⟨rfl, rfl⟩ := hr; exact hC H' i1 i2 i3) (fun x H' hx => hx.elim)
theorem m_erase {G : Nat → Nat} {d n0 : Nat} {h0 H : mH} {C : mQ} {X : mX} {s s2 : aQ} (hw : wf s2.2.1 s2.2.2.1) (hI : IC n0 H s) (hR : IR n0 H s2) (hK : IK n0 h0 H)
    (hC : ∀ H', IC n0 H' s → IR n0 H' ([], s2.2) → IK n0 h0 H' → C (some (.inl ((s2.1.length : Int)))) H') :
    callG (wp G) d 95 0 0 2 [.inr (.inl (some (n0 + 27)))] H C X :=
  rf_st (R := fun v _ s' => v = some (.inl ((s2.1.length : Int))) ∧ s' = ([], s2.2)) hI hR hK (fun Es hs => q_erase hs (fun h' hc => ⟨Es, ([], s2.2), hc, rfl, rfl⟩)) (fun v s' H' hr i1 i2 i3 _ => by obtain ⟨rfl, rfl⟩ := hr; exact hC H' i1 i2 i3)
theorem m_tie {G : Nat → Nat} {d n0 : Nat} {h0 H : mH} {C : mQ} {X : mX} {s s2 : aQ} (hd : 7 ≤ d) (hw : wf s2.2.1 s2.2.2.1) (hI : IC n0 H s) (hR : IR n0 H s2) (hK : IK n0 h0 H)
    (hC : ∀ H', IC n0 H' s → IR n0 H' (s2.1, tiT s2.2.1 s2.2.2.1 s2.1, s2.2.2) → IK n0 h0 H' → C (some (.inl (tiR s2.2.1 s2.2.2.1 s2.1))) H') :
    callG (wp G) d 115 0 0 3 [.inr (.inl (some (n0 + 27)))] H C X :=
  rf_st (R := fun v _ s' => v = some (.inl (tiR s2.2.1 s2.2.2.1 s2.1)) ∧ s' = (s2.1, tiT s2.2.1 s2.2.2.1 s2.1, s2.2.2)) hI hR hK (fun Es hs => q_tie hd hs hw (fun h' Es' hc => ⟨Es', (s2.1, tiT s2.2.1 s2.2.2.1 s2.1, s2.2.2), hc, rfl, rfl⟩)) (fun v s' H' hr i1 i2 i3 _ => by obtain ⟨rfl, rfl⟩ := hr; exact hC H' i1 i2 i3)
theorem m_drop {G : Nat → Nat} {d n0 : Nat} {h0 H : mH} {C : mQ} {X : mX} {s s2 : aQ} (hd : 7 ≤ d) (hw : wf s2.2.1 s2.2.2.1) (hI : IC n0 H s) (hR : IR n0 H s2) (hK : IK n0 h0 H)
    (hC : ∀ H', IC n0 H' s → IR n0 H' (s2.1, drT s2.2.1 s2.2.2.1 s2.1, s2.2.2) → IK n0 h0 H' → C (some (.inl (drR s2.2.1 s2.2.2.1 s2.1))) H') :
    callG (wp G) d 116 0 0 2 [.inr (.inl (some (n0 + 27)))] H C X :=
  rf_st (R := fun v _ s' => v = some (.inl (drR s2.2.1 s2.2.2.1 s2.1)) ∧ s' = (s2.1, drT s2.2.1 s2.2.2.1 s2.1, s2.2.2)) hI hR hK (fun Es hs => q_drop hd hs hw (fun h' Es' hc => ⟨Es', (s2.1, drT s2.2.1 s2.2.2.1 s2.1, s2.2.2), hc, rfl, rfl⟩)) (fun v s' H' hr i1 i2 i3 _ => by obtain ⟨rfl, rfl⟩ := hr; exact hC H' i1 i2 i3)
theorem m_go {G : Nat → Nat} {d n0 : Nat} {h0 H : mH} {C : mQ} {X : mX} {s s2 : aQ} (hd : 6 ≤ d) (hw : wf s2.2.1 s2.2.2.1) (hI : IC n0 H s) (hR : IR n0 H s2) (hK : IK n0 h0 H)
    (hC : ∀ H', IC n0 H' s → IR n0 H' (s2.1, s2.2.1, (if 0 ≤ goR s2.2.1 s2.2.2.1 s2.1 then (goR s2.2.1 s2.2.2.1 s2.1).toNat else s2.2.2.1), s2.2.2.2) → IK n0 h0 H' → C (some (.inl (goR s2.2.1 s2.2.2.1 s2.1))) H') :
    callG (wp G) d 118 0 0 2 [.inr (.inl (some (n0 + 27)))] H C X :=
  rf_st (R := fun v _ s' => v = some (.inl (goR s2.2.1 s2.2.2.1 s2.1)) ∧ s' = (s2.1, s2.2.1, (if 0 ≤ goR s2.2.1 s2.2.2.1 s2.1 then (goR s2.2.1 s2.2.2.1 s2.1).toNat else s2.2.2.1), s2.2.2.2)) hI hR hK (fun Es hs => q_go hd hs hw (fun h' hc => ⟨Es, (s2.1, s2.2.1, (if 0 ≤ goR s2.2.1 s2.2.2.1 s2.1 then (goR s2.2.1 s2.2.2.1 s2.1).toNat else s2.2.2.1), s2.2.2.2), hc, rfl, rfl⟩)) (fun v s' H' hr i1 i2 i3 _ => by obtain ⟨rfl, rfl⟩ := hr; exact hC H' i1 i2 i3)
theorem m_node {G : Nat → Nat} {d n0 : Nat} {h0 H : mH} {C : mQ} {X : mX} {s s2 : aQ} {fol : Bool} (hd : 6 ≤ d) (hw : wf s2.2.1 s2.2.2.1) (hI : IC n0 H s) (hR : IR n0 H s2) (hK : IK n0 h0 H)
    (hC : ∀ H', IC n0 H' s → IR n0 H' s2 → IK n0 h0 H' → C (some (.inl ((nwR s2.2.1 s2.2.2.1 s2.1 0 fol).1))) H') :
    callG (wp G) d 119 0 0 2 [.inr (.inl (some (n0 + 27))), .inl (b01 fol)] H C X :=
  rf_st (R := fun v _ s' => v = some (.inl ((nwR s2.2.1 s2.2.2.1 s2.1 0 fol).1)) ∧ s' = s2) hI hR hK (fun Es hs => q_node hd hs hw (fun h' hc => ⟨Es, s2, hc, rfl, rfl⟩)) (fun v s' H' hr i1 i2 i3 _ => by obtain ⟨rfl, rfl⟩ := hr; exact hC H' i1 i2 i3)
theorem m_real {G : Nat → Nat} {d n0 : Nat} {h0 H : mH} {C : mQ} {X : mX} {s s2 : aQ} (hd : 6 ≤ d) (hw : wf s2.2.1 s2.2.2.1) (hI : IC n0 H s) (hR : IR n0 H s2) (hK : IK n0 h0 H)
    (hC : ∀ H', IC n0 H' s → IR n0 H' (s2.1, s2.2.1, s2.2.2.1, reO s2.2.1 s2.2.2.1 s2.1 s2.2.2.2.1, s2.2.2.2.2) → IK n0 h0 H' → C (some (.inl (reR s2.2.1 s2.2.2.1 s2.1))) H') :
    callG (wp G) d 121 0 0 6 [.inr (.inl (some (n0 + 27)))] H C X :=
  rf_st (R := fun v _ s' => v = some (.inl (reR s2.2.1 s2.2.2.1 s2.1)) ∧ s' = (s2.1, s2.2.1, s2.2.2.1, reO s2.2.1 s2.2.2.1 s2.1 s2.2.2.2.1, s2.2.2.2.2)) hI hR hK (fun Es hs => q_real hd hs hw (fun h' hc => ⟨Es, (s2.1, s2.2.1, s2.2.2.1, reO s2.2.1 s2.2.2.1 s2.1 s2.2.2.2.1, s2.2.2.2.2), hc, rfl, rfl⟩)) (fun v s' H' hr i1 i2 i3 _ => by obtain ⟨rfl, rfl⟩ := hr; exact hC H' i1 i2 i3)
theorem m_place {G : Nat → Nat} {d n0 : Nat} {h0 H : mH} {C : mQ} {X : mX} {s s2 : aQ} (hw : wf s2.2.1 s2.2.2.1) (hI : IC n0 H s) (hR : IR n0 H s2) (hK : IK n0 h0 H)
    (hC : ∀ H', IC n0 H' s → IR n0 H' s2 → IK n0 h0 H' → C (some (.inl (s2.2.2.2.2.2))) H') :
    callG (wp G) d 144 0 0 1 [.inr (.inl (some (n0 + 27)))] H C X :=
  rf_st (R := fun v _ s' => v = some (.inl (s2.2.2.2.2.2)) ∧ s' = s2) hI hR hK (fun Es hs => q_place hs (fun h' hc => ⟨Es, s2, hc, rfl, rfl⟩)) (fun v s' H' hr i1 i2 i3 _ => by obtain ⟨rfl, rfl⟩ := hr; exact hC H' i1 i2 i3)
theorem m_output {G : Nat → Nat} {d n0 : Nat} {h0 H : mH} {C : mQ} {X : mX} {s s2 : aQ} {z : Int} (hw : wf s2.2.1 s2.2.2.1) (hI : IC n0 H s) (hR : IR n0 H s2) (hK : IK n0 h0 H)
    (hC : ∀ H', IC n0 H' s → IR n0 H' s2 → IK n0 h0 H' → C (some (.inl (outR s2.2.2.2.1 z))) H') :
    callG (wp G) d 145 0 0 2 [.inr (.inl (some (n0 + 27))), .inl z] H C X :=
  rf_st (R := fun v _ s' => v = some (.inl (outR s2.2.2.2.1 z)) ∧ s' = s2) hI hR hK (fun Es hs => q_output hs (fun h' hc => ⟨Es, s2, hc, rfl, rfl⟩)) (fun v s' H' hr i1 i2 i3 _ => by obtain ⟨rfl, rfl⟩ := hr; exact hC H' i1 i2 i3)
theorem m_count {G : Nat → Nat} {d n0 : Nat} {h0 H : mH} {C : mQ} {X : mX} {s s2 : aQ} {w : Int} (hw : wf s2.2.1 s2.2.2.1) (hI : IC n0 H s) (hR : IR n0 H s2) (hK : IK n0 h0 H)
    (hC : ∀ H', IC n0 H' s → IR n0 H' s2 → IK n0 h0 H' → C (some (.inl (couR s2.2.1 s2.2.2.2.1 s2.2.2.2.2.1 w))) H') :
    callG (wp G) d 147 0 0 4 [.inr (.inl (some (n0 + 27))), .inl w] H C X :=
  rf_st (R := fun v _ s' => v = some (.inl (couR s2.2.1 s2.2.2.2.1 s2.2.2.2.2.1 w)) ∧ s' = s2) hI hR hK (fun Es hs => q_count hs hw (fun h' hc => ⟨Es, s2, hc, rfl, rfl⟩)) (fun v s' H' hr i1 i2 i3 _ => by obtain ⟨rfl, rfl⟩ := hr; exact hC H' i1 i2 i3)
theorem m_type {G : Nat → Nat} {d n0 : Nat} {h0 H : mH} {C : mQ} {X : mX} {s s2 : aQ} {a b e f g : Int} (hd : 2 ≤ d) (hw : wf s2.2.1 s2.2.2.1) (hI : IC n0 H s) (hR : IR n0 H s2) (hK : IK n0 h0 H)
    (hC1 : (s2.1 ++ tyA a b e f g).length ≤ 100 → ∀ H', IC n0 H' s → IR n0 H' (s2.1 ++ tyA a b e f g, s2.2) → IK n0 h0 H' → hvi H' (n0 + 27) 0 = 0 → hvl H' (n0 + 59) 0 = hvl H (n0 + 59) 0 → C (some (.inl (((s2.1 ++ tyA a b e f g).length : Int)))) H')
    (hC2 : ¬ (s2.1 ++ tyA a b e f g).length ≤ 100 → ∀ H', IC n0 H' s → IR n0 H' s2 → IK n0 h0 H' → hvi H' (n0 + 27) 0 = 1 → C (some (.inl 0)) H') :
    callG (wp G) d 94 0 0 10 [.inr (.inl (some (n0 + 27))), .inl a, .inl b, .inl e, .inl f, .inl g] H C X :=
  rf_st (R := fun v t s' => ((s2.1 ++ tyA a b e f g).length ≤ 100 ∧ t = 0 ∧ v = some (.inl (((s2.1 ++ tyA a b e f g).length : Int))) ∧ s' = (s2.1 ++ tyA a b e f g, s2.2)) ∨ (¬ (s2.1 ++ tyA a b e f g).length ≤ 100 ∧ t = 1 ∧ v = some (.inl 0) ∧ s' = s2)) hI hR hK (fun Es hs => q_type hd hs (fun hy h' hc ht => ⟨Es, (s2.1 ++ tyA a b e f g, s2.2), hc, Or.inl ⟨hy, ht, rfl, rfl⟩⟩) (fun hn h' hc ht => ⟨Es, s2, hc, Or.inr ⟨hn, ht, rfl, rfl⟩⟩)) (fun v s' H' hr i1 i2 i3 i4 => by
    rcases hr with ⟨hy, ht, rfl, rfl⟩ | ⟨hn, ht, rfl, rfl⟩
    · exact hC1 hy H' i1 i2 i3 ht i4
    · exact hC2 hn H' i1 i2 i3 ht)
theorem m_make {G : Nat → Nat} {d n0 : Nat} {h0 H : mH} {C : mQ} {X : mX} {s s2 : aQ} {Z D : Int} {dir : Bool} (hd : 7 ≤ d) (hw : wf s2.2.1 s2.2.2.1) (hI : IC n0 H s) (hR : IR n0 H s2) (hK : IK n0 h0 H)
    (hC1 : ((0 ≤ Z ∧ Z ≤ 999999) ∧ (0 ≤ D ∧ D ≤ 999999)) → ∀ H', IC n0 H' s → IR n0 H' (s2.1, mkT s2.2.1 s2.2.2.1 s2.1 0 (mkV dir Z D), s2.2.2) → IK n0 h0 H' → hvi H' (n0 + 27) 0 = 0 → hvl H' (n0 + 59) 0 = hvl H (n0 + 59) 0 → C (some (.inl (mkR s2.2.1 s2.2.2.1 s2.1 0))) H')
    (hC2 : ¬ ((0 ≤ Z ∧ Z ≤ 999999) ∧ (0 ≤ D ∧ D ≤ 999999)) → ∀ H', IC n0 H' s → IR n0 H' s2 → IK n0 h0 H' → hvi H' (n0 + 27) 0 = 1 → C (some (.inl 0)) H') :
    callG (wp G) d 113 0 0 5 [.inr (.inl (some (n0 + 27))), .inl (b01 dir), .inl Z, .inl D] H C X :=
  rf_st (R := fun v t s' => (((0 ≤ Z ∧ Z ≤ 999999) ∧ (0 ≤ D ∧ D ≤ 999999)) ∧ t = 0 ∧ v = some (.inl (mkR s2.2.1 s2.2.2.1 s2.1 0)) ∧ s' = (s2.1, mkT s2.2.1 s2.2.2.1 s2.1 0 (mkV dir Z D), s2.2.2)) ∨ (¬ ((0 ≤ Z ∧ Z ≤ 999999) ∧ (0 ≤ D ∧ D ≤ 999999)) ∧ t = 1 ∧ v = some (.inl 0) ∧ s' = s2)) hI hR hK (fun Es hs => q_make hd hs hw (fun hy h' Es' hc ht => ⟨Es', (s2.1, mkT s2.2.1 s2.2.2.1 s2.1 0 (mkV dir Z D), s2.2.2), hc, Or.inl ⟨hy, ht, rfl, rfl⟩⟩) (fun hn h' hc ht => ⟨Es, s2, hc, Or.inr ⟨hn, ht, rfl, rfl⟩⟩)) (fun v s' H' hr i1 i2 i3 i4 => by
    rcases hr with ⟨hy, ht, rfl, rfl⟩ | ⟨hn, ht, rfl, rfl⟩
    · exact hC1 hy H' i1 i2 i3 ht i4
    · exact hC2 hn H' i1 i2 i3 ht)
theorem m_link {G : Nat → Nat} {d n0 : Nat} {h0 H : mH} {C : mQ} {X : mX} {s s2 : aQ} {D : Int} (hd : 7 ≤ d) (hw : wf s2.2.1 s2.2.2.1) (hI : IC n0 H s) (hR : IR n0 H s2) (hK : IK n0 h0 H)
    (hC1 : (0 ≤ D ∧ D ≤ 999999) → ∀ H', IC n0 H' s → IR n0 H' (s2.1, lkT s2.2.1 s2.2.2.1 s2.1 D, s2.2.2) → IK n0 h0 H' → hvi H' (n0 + 27) 0 = 0 → hvl H' (n0 + 59) 0 = hvl H (n0 + 59) 0 → C (some (.inl (lkR s2.2.1 s2.2.2.1 s2.1))) H')
    (hC2 : ¬ (0 ≤ D ∧ D ≤ 999999) → ∀ H', IC n0 H' s → IR n0 H' s2 → IK n0 h0 H' → hvi H' (n0 + 27) 0 = 1 → C (some (.inl 0)) H') :
    callG (wp G) d 114 0 0 5 [.inr (.inl (some (n0 + 27))), .inl D] H C X :=
  rf_st (R := fun v t s' => ((0 ≤ D ∧ D ≤ 999999) ∧ t = 0 ∧ v = some (.inl (lkR s2.2.1 s2.2.2.1 s2.1)) ∧ s' = (s2.1, lkT s2.2.1 s2.2.2.1 s2.1 D, s2.2.2)) ∨ (¬ (0 ≤ D ∧ D ≤ 999999) ∧ t = 1 ∧ v = some (.inl 0) ∧ s' = s2)) hI hR hK (fun Es hs => q_link hd hs hw (fun hy h' Es' hc ht => ⟨Es', (s2.1, lkT s2.2.1 s2.2.2.1 s2.1 D, s2.2.2), hc, Or.inl ⟨hy, ht, rfl, rfl⟩⟩) (fun hn h' hc ht => ⟨Es, s2, hc, Or.inr ⟨hn, ht, rfl, rfl⟩⟩)) (fun v s' H' hr i1 i2 i3 i4 => by
    rcases hr with ⟨hy, ht, rfl, rfl⟩ | ⟨hn, ht, rfl, rfl⟩
    · exact hC1 hy H' i1 i2 i3 ht i4
    · exact hC2 hn H' i1 i2 i3 ht)
theorem m_bits {G : Nat → Nat} {d n0 : Nat} {h0 H : mH} {C : mQ} {X : mX} {s s2 : aQ} {b : Int} (hd : 6 ≤ d) (hw : wf s2.2.1 s2.2.2.1) (hI : IC n0 H s) (hR : IR n0 H s2) (hK : IK n0 h0 H)
    (hC1 : (0 ≤ b ∧ b ≤ 7) → ∀ H', IC n0 H' s → IR n0 H' (s2.1, biT s2.2.1 s2.2.2.1 s2.1 b, s2.2.2) → IK n0 h0 H' → hvi H' (n0 + 27) 0 = 0 → hvl H' (n0 + 59) 0 = hvl H (n0 + 59) 0 → C (some (.inl (biR s2.2.1 s2.2.2.1 s2.1))) H')
    (hC2 : ¬ (0 ≤ b ∧ b ≤ 7) → ∀ H', IC n0 H' s → IR n0 H' s2 → IK n0 h0 H' → hvi H' (n0 + 27) 0 = 1 → C (some (.inl 0)) H') :
    callG (wp G) d 117 0 0 4 [.inr (.inl (some (n0 + 27))), .inl b] H C X :=
  rf_st (R := fun v t s' => ((0 ≤ b ∧ b ≤ 7) ∧ t = 0 ∧ v = some (.inl (biR s2.2.1 s2.2.2.1 s2.1)) ∧ s' = (s2.1, biT s2.2.1 s2.2.2.1 s2.1 b, s2.2.2)) ∨ (¬ (0 ≤ b ∧ b ≤ 7) ∧ t = 1 ∧ v = some (.inl 0) ∧ s' = s2)) hI hR hK (fun Es hs => q_bits hd hs hw (fun hy h' hc ht => ⟨Es, (s2.1, biT s2.2.1 s2.2.2.1 s2.1 b, s2.2.2), hc, Or.inl ⟨hy, ht, rfl, rfl⟩⟩) (fun hn h' hc ht => ⟨Es, s2, hc, Or.inr ⟨hn, ht, rfl, rfl⟩⟩)) (fun v s' H' hr i1 i2 i3 i4 => by
    rcases hr with ⟨hy, ht, rfl, rfl⟩ | ⟨hn, ht, rfl, rfl⟩
    · exact hC1 hy H' i1 i2 i3 ht i4
    · exact hC2 hn H' i1 i2 i3 ht)
theorem m_find {G : Nat → Nat} {d n0 : Nat} {h0 H : mH} {C : mQ} {X : mX} {s s2 : aQ} {pr : Int} (hd : 11 ≤ d) (hw : wf s2.2.1 s2.2.2.1) (hI : IC n0 H s) (hR : IR n0 H s2) (hK : IK n0 h0 H)
    (hC1 : (0 ≤ pr ∧ pr ≤ 999999) → ∀ H', IC n0 H' s → IR n0 H' (s2.1, s2.2.1, s2.2.2.1, fiO s2.2.1 s2.2.2.1 s2.1 pr, fiC s2.2.1 s2.2.2.1 s2.1 pr, (fdK s2.1).1) → IK n0 h0 H' → hvi H' (n0 + 27) 0 = 0 → hvl H' (n0 + 59) 0 = hvl H (n0 + 59) 0 → C (some (.inl (fiR s2.2.1 s2.2.2.1 s2.1 pr))) H')
    (hC2 : ¬ (0 ≤ pr ∧ pr ≤ 999999) → ∀ H', IC n0 H' s → IR n0 H' s2 → IK n0 h0 H' → hvi H' (n0 + 27) 0 = 1 → C (some (.inl 0)) H') :
    callG (wp G) d 142 0 0 6 [.inr (.inl (some (n0 + 27))), .inl pr] H C X :=
  rf_st (R := fun v t s' => ((0 ≤ pr ∧ pr ≤ 999999) ∧ t = 0 ∧ v = some (.inl (fiR s2.2.1 s2.2.2.1 s2.1 pr)) ∧ s' = (s2.1, s2.2.1, s2.2.2.1, fiO s2.2.1 s2.2.2.1 s2.1 pr, fiC s2.2.1 s2.2.2.1 s2.1 pr, (fdK s2.1).1)) ∨ (¬ (0 ≤ pr ∧ pr ≤ 999999) ∧ t = 1 ∧ v = some (.inl 0) ∧ s' = s2)) hI hR hK (fun Es hs => q_find hd hs hw (fun hy h' hc ht => ⟨Es, (s2.1, s2.2.1, s2.2.2.1, fiO s2.2.1 s2.2.2.1 s2.1 pr, fiC s2.2.1 s2.2.2.1 s2.1 pr, (fdK s2.1).1), hc, Or.inl ⟨hy, ht, rfl, rfl⟩⟩) (fun hn h' hc ht => ⟨Es, s2, hc, Or.inr ⟨hn, ht, rfl, rfl⟩⟩)) (fun v s' H' hr i1 i2 i3 i4 => by
    rcases hr with ⟨hy, ht, rfl, rfl⟩ | ⟨hn, ht, rfl, rfl⟩
    · exact hC1 hy H' i1 i2 i3 ht i4
    · exact hC2 hn H' i1 i2 i3 ht)
theorem m_tell {G : Nat → Nat} {d n0 : Nat} {h0 H : mH} {C : mQ} {X : mX} {s s2 : aQ} {z w : Int} (hd : 2 ≤ d) (hw : wf s2.2.1 s2.2.2.1) (hI : IC n0 H s) (hR : IR n0 H s2) (hK : IK n0 h0 H)
    (hC1 : ∀ v, tlN s2.2.1 z = some v → ∀ H', IC n0 H' s → IR n0 H' s2 → IK n0 h0 H' → hvi H' (n0 + 27) 0 = 0 → hvl H' (n0 + 59) 0 = hvl H (n0 + 59) 0 → C (some (.inl (telR v w))) H')
    (hC2 : tlN s2.2.1 z = none → ∀ H', IC n0 H' s → IR n0 H' s2 → IK n0 h0 H' → hvi H' (n0 + 27) 0 = 1 → C (some (.inl 0)) H') :
    callG (wp G) d 146 0 0 3 [.inr (.inl (some (n0 + 27))), .inl z, .inl w] H C X :=
  rf_st (R := fun v t s' => (∃ v0, tlN s2.2.1 z = some v0 ∧ t = 0 ∧ v = some (.inl (telR v0 w)) ∧ s' = s2) ∨ (tlN s2.2.1 z = none ∧ t = 1 ∧ v = some (.inl 0) ∧ s' = s2)) hI hR hK (fun Es hs => q_tell hd hs hw (fun v hv h' hc ht => ⟨Es, s2, hc, Or.inl ⟨v, hv, ht, rfl, rfl⟩⟩) (fun hn h' hc ht => ⟨Es, s2, hc, Or.inr ⟨hn, ht, rfl, rfl⟩⟩)) (fun v s' H' hr i1 i2 i3 i4 => by
    rcases hr with ⟨v0, hy, ht, rfl, rfl⟩ | ⟨hn, ht, rfl, rfl⟩
    · exact hC1 v0 hy H' i1 i2 i3 ht i4
    · exact hC2 hn H' i1 i2 i3 ht)
theorem IR_RN {n0 : Nat} {H : mH} {s : aQ} (h : IR n0 H s) : RN (n0 + 27) H := by
  obtain ⟨Es, h⟩ := h
  exact h.1
theorem IC_wf {n0 : Nat} {H : mH} {s : aQ} (h : IC n0 H s) : wf s.2.1 s.2.2.1 := h.1.2.2.2.2.2.2.2.2.2
