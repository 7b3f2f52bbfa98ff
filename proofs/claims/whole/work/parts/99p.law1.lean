/-! THE LAW: the class and the reference side by side -/
def er (P : Nat → Bool) (H : mH) : mH := (hsz H, fun a => if P a = true then none else hty H a, H.2.2.1, H.2.2.2.1, H.2.2.2.2)
theorem er_ty {P : Nat → Bool} {H : mH} {a : Nat} : hty (er P H) a = if P a = true then none else hty H a := rfl
theorem er_sz {P : Nat → Bool} {H : mH} : hsz (er P H) = hsz H := rfl
theorem er_vi {P : Nat → Bool} {H : mH} {a j : Nat} : hvi (er P H) a j = hvi H a j := rfl
theorem er_vr {P : Nat → Bool} {H : mH} {a j : Nat} : hvr (er P H) a j = hvr H a j := rfl
theorem er_cmb {P : Nat → Bool} {H : mH} : cmb P H (er P H) = H := by
  refine hx_ext rfl (fun a => ?_) (fun a j => ?_) (fun a j => ?_) (fun a j => ?_)
  · rw [cm_ty, er_ty]; by_cases h : P a = true <;> simp [h]
  · rw [cm_vi]; by_cases h : P a = true
    · rw [if_pos h]
    · rw [if_neg h]; rfl
  · rw [cm_vr]; by_cases h : P a = true
    · rw [if_pos h]
    · rw [if_neg h]; rfl
  · rw [cm_vl]; by_cases h : P a = true
    · rw [if_pos h]
    · rw [if_neg h]; rfl
/-- the cell of DOT out of sight -/
def ut (g : Nat) (h h' : mH) : Prop := hsz h' = hsz h ∧ ∀ a, ¬ a = g → hty h' a = hty h a ∧ ∀ j, hvr h' a j = hvr h a j ∧ hvi h' a j = hvi h a j
theorem ut_ne {g a : Nat} {h : mH} {x : Nat × Nat} (hg : hty h g = some (51, 1)) (ha : hty h a = some x) (hx : ¬ x.1 = 51) : ¬ a = g := fun q => by rw [q, hg] at ha; injection ha with ha; rw [← ha] at hx; exact hx rfl
theorem EN_ut {g e : Nat} {h h' : mH} {p : aE} (u : ut g h h') (hg : hty h g = some (51, 1)) (H : EN h e p) : EN h' e p := by
  obtain ⟨h1, h2, h3, h4, h5, b, h6, h7, h8⟩ := H
  have n1 := u.2 e (ut_ne hg h1 (by simp))
  have n2 := u.2 b (ut_ne hg h7 (by simp))
  exact ⟨by rw [n1.1]; exact h1, h2, h3, h4, by rw [(n1.2 _).2]; exact h5, b, by rw [(n1.2 _).1]; exact h6, by rw [n2.1]; exact h7, fun i hi => by rw [(n2.2 _).2]; exact h8 i hi⟩
theorem ND_ut {g a : Nat} {h h' : mH} {v : aN} (u : ut g h h') (hg : hty h g = some (51, 1)) (H : ND h a v) : ND h' a v := by
  obtain ⟨h1, h2, h3, h4, h5, h6, h7, h8, h9, h10, h11, h12, h13, h14, h15, h16⟩ := H
  have n1 := u.2 a (ut_ne hg h1 (by simp))
  have n2 := u.2 (a + 1) (ut_ne hg h11 (by simp))
  have n3 := u.2 (a + 2) (ut_ne hg h14 (by simp))
  refine ⟨by rw [n1.1]; exact h1, by rw [(n1.2 _).2]; exact h2, by rw [(n1.2 _).2]; exact h3, by rw [(n1.2 _).2]; exact h4, by rw [(n1.2 _).1]; exact h5, by rw [(n1.2 _).1]; exact h6, by rw [(n1.2 _).2]; exact h7, by rw [(n1.2 _).2]; exact h8, by rw [(n1.2 _).2]; exact h9, by rw [(n1.2 _).2]; exact h10, by rw [n2.1]; exact h11, fun i hi => by rw [(n2.2 _).2]; exact h12 i hi, h13, by rw [n3.1]; exact h14, h15, fun k p hk => ?_⟩
  obtain ⟨e, e1, e2⟩ := h16 k p hk
  exact ⟨e, by rw [(n3.2 _).1]; exact e1, EN_ut u hg e2⟩
theorem CS_ut {c g : Nat} {h h' : mH} {L : List Int} {T : aT} {here : Nat} {O : List Int} {cp bad : Int} (u : ut g h h') (hg : hty h g = some (51, 1)) (hg' : hty h' g = none) (H : CS c h L T here O cp bad) : CS c h' L T here O cp bad := by
  obtain ⟨h1, h2, h3, h4, h5, h6, h7, h8, h9, h10⟩ := H
  have nc : ∀ p ∈ cTy, ¬ c + p.1 = g := fun p hp => ut_ne hg (h1.1 p hp) (by
    have k : ∀ p ∈ cTy, ¬ p.2.1 = 51 := by decide
    exact k p hp)
  have ne : ∀ i t, hty h (c + i) = some t → ¬ t.1 = 51 → hty h' (c + i) = hty h (c + i) ∧ ∀ j, hvr h' (c + i) j = hvr h (c + i) j ∧ hvi h' (c + i) j = hvi h (c + i) j := fun i t q1 q2 => u.2 _ (ut_ne hg q1 q2)
  have hCF : CF c h' := by
    refine ⟨fun p hp => by rw [(u.2 _ (nc p hp)).1]; exact h1.1 p hp, fun q hq => ?_⟩
    have k : ∀ q ∈ cRf, cTy.any (fun p => p.1 == q.1) = true := by decide
    obtain ⟨p, hp, he⟩ := List.any_eq_true.mp (k q hq)
    have he : p.1 = q.1 := by simpa using he
    rw [((u.2 _ (by rw [← he]; exact nc p hp)).2 _).1]
    exact h1.2 q hq
  have n0 := ne 0 _ (h1.1 (0, 10, 7) (by decide)) (by simp)
  have n1 := ne 1 _ (h1.1 (1, 4, 5) (by decide)) (by simp)
  have n2 := ne 2 _ (h1.1 (2, 21, 100) (by decide)) (by simp)
  have n3 := ne 3 _ (h1.1 (3, 20, 50) (by decide)) (by simp)
  have n4 := ne 4 _ (h1.1 (4, 20, 50) (by decide)) (by simp)
  have n12 := ne 12 _ (h1.1 (12, 6, 3) (by decide)) (by simp)
  have n13 := ne 13 _ (h1.1 (13, 21, 1500) (by decide)) (by simp)
  have n19 := ne 19 _ (h1.1 (19, 2, 14) (by decide)) (by simp)
  have n5 := ne 5 _ h3.1 (by simp)
  have n6 := ne 6 _ h3.2.2.1 (by simp)
  have n10 := ne 10 _ h4.1 (by simp)
  have n11 := ne 11 _ h4.2.2.2 (by simp)
  obtain ⟨t1, t2, t3, t4, t5, t6, t7, t8⟩ := h3
  have hTR : TR (c + 5) h' T here := by
    refine ⟨by rw [n5.1]; exact t1, by rw [(n5.2 _).1]; exact t2, n6.1.trans t3, by rw [(n5.2 _).2]; exact t4, by rw [(n5.2 _).2]; exact t5, fun n hn hT => (n6.2 n).1.trans (t6 n hn hT), fun n v hn hT => ?_, fun n m a hn hm q1 q2 => t8 n m a hn hm ((n6.2 n).1.symm.trans q1) ((n6.2 m).1.symm.trans q2)⟩
    obtain ⟨a, a1, a2⟩ := t7 n v hn hT
    exact ⟨a, (n6.2 n).1.trans a1, ND_ut u hg a2⟩
  refine ⟨hCF, ?_, hTR, ⟨by rw [n10.1]; exact h4.1, by rw [(n10.2 _).1]; exact h4.2.1, by rw [(n10.2 _).1]; exact h4.2.2.1, n11.1.trans h4.2.2.2⟩, fun n v hn hT hk h0 => ?_, ?_, by rw [(n19.2 _).2]; exact h7, ?_, fun a ha => ?_, h10⟩
  · obtain ⟨⟨a1, a2, a3, a4, a5, a6, a7⟩, ⟨b1, b2, b3, b4, b5⟩, b6⟩ := h2
    exact ⟨⟨by rw [n1.1]; exact a1, by rw [(n1.2 _).1]; exact a2, by rw [(n1.2 _).1]; exact a3, by rw [(n1.2 _).1]; exact a4, n2.1.trans a5, n3.1.trans a6, n4.1.trans a7⟩, ⟨b1, by rw [(n1.2 _).2]; exact b2, fun i hi => (n2.2 i).2.trans (b3 i hi), by rw [(n1.2 _).2]; exact b4, fun k hk => ⟨(n3.2 k).2.trans (b5 k hk).1, (n4.2 k).2.trans (b5 k hk).2⟩⟩, b6⟩
  · obtain ⟨a, e, s, q1, q2, q3, q4⟩ := h5 n v hn hT hk h0
    obtain ⟨a', a1, a2⟩ := t7 n v hn hT
    have ea : a' = a := by rw [q1] at a1; injection a1 with a1; exact a1.symm
    subst ea
    have na := u.2 a' (ut_ne hg a2.1 (by simp))
    exact ⟨a', e, s, (n6.2 n).1.trans q1, by rw [(na.2 _).1]; exact q2, EN_ut u hg q3, q4⟩
  · obtain ⟨p1, p2, p3, p4, p5, p6⟩ := h6
    exact ⟨by rw [n12.1]; exact p1, n13.1.trans p2, by rw [(n12.2 _).2]; exact p3, p4, fun i hi => (n13.2 _).2.trans (p5 i hi), p6⟩
  · have := (n0.2 6).2
    exact this.trans h8
  · by_cases q : a = g
    · rw [q]; exact hg'
    · rw [(u.2 a q).1]; exact h9 a (by rw [u.1] at ha; exact ha)
/-- the reference's cells alone count -/
theorem RS_eq {r : Nat} {h h' : mH} {Es : Nat → List aE} {L : List Int} {T : aT} {here : Nat} {O : List Int} {cp bad : Int} (q : ∀ i, i < 32 → hty h' (r + i) = hty h (r + i) ∧ ∀ j, hvr h' (r + i) j = hvr h (r + i) j ∧ hvi h' (r + i) j = hvi h (r + i) j) (H : RS r h Es L T here O cp bad) : RS r h' Es L T here O cp bad := by
  obtain ⟨h1, h2, h3, h4, h5, h6, h7, h8⟩ := H
  have vi : ∀ i j, i < 32 → hvi h' (r + i) j = hvi h (r + i) j := fun i j hi => ((q i hi).2 j).2
  have v0 : ∀ j, hvi h' r j = hvi h r j := fun j => vi 0 j (by omega)
  refine ⟨⟨(q 0 (by omega)).1.trans h1.1, fun p hp => ?_⟩, ⟨(v0 _).trans h2.1, fun i hi hi2 => (vi 13 i (by omega)).trans (h2.2 i hi hi2)⟩, h3, ⟨(v0 _).trans h4.1, fun n hn => (vi 1 n (by omega)).trans (h4.2.1 n hn), fun n v hn hT => ?_⟩, fun j => by rw [vi 12 j (by omega)]; exact h5 j, ⟨(v0 _).trans h6.1, h6.2.1, fun i hi => (vi 16 _ (by omega)).trans (h6.2.2.1 i hi), h6.2.2.2⟩, (v0 _).trans h7, (v0 _).trans h8⟩
  · have k3 : ∀ p ∈ rTab, p.2.1 < 32 := by decide
    exact ⟨((q 0 (by omega)).2 _).1.trans (h1.2 p hp).1, (q _ (k3 p hp)).1.trans (h1.2 p hp).2⟩
  · obtain ⟨a1, a2, a3, a4, a5⟩ := h4.2.2 n v hn hT
    refine ⟨(vi 2 n (by omega)).trans a1, (vi 3 n (by omega)).trans a2, (vi 4 n (by omega)).trans a3, fun hk => ?_, fun hk => ?_⟩
    · obtain ⟨b1, b2, b3, b4⟩ := a4 hk
      refine ⟨(vi 5 n (by omega)).trans b1, (vi 6 n (by omega)).trans b2, ⟨(vi 9 n (by omega)).trans b3.1, b3.2.1, fun k p hk => ?_⟩, b4⟩
      obtain ⟨c1, c2, c3, c4⟩ := b3.2.2 k p hk
      exact ⟨(vi 10 _ (by omega)).trans c1, (vi 11 _ (by omega)).trans c2, fun i hi => (vi 12 _ (by omega)).trans (c3 i hi), c4⟩
    · obtain ⟨b1, b2, b3⟩ := a5 hk
      exact ⟨(vi 7 n (by omega)).trans b1, fun i hi => (vi 8 _ (by omega)).trans (b2 i hi), b3⟩
