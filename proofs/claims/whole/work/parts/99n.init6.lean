theorem i_X11 {G : Nat → Nat} {d r : Nat} {h0 h : mH} {C : mQ} {X : mX} {ft : Nat → Nat × Nat} {fr : Nat → Nat → Option Nat} {fi : Nat → Nat → Int} (H : ST h0 r h 1 ft fr fi) (ht : ft 0 = (11, 54)) (hf : ∀ j, fi 0 j = 0)
    (hC : ∀ h', RS r h' (fun _ => []) [] T0 0 [] 0 (-1) → hsz h' = r + 32 → (∀ i, i < 32 → ∃ t, hty h' (r + i) = some t) → (∀ a, a < r → hty h' a = hty h0 a ∧ ∀ j, hvr h' a j = hvr h0 a j ∧ hvi h' a j = hvi h0 a j ∧ hvl h' a j = hvl h0 a j) → (∀ a, r + 32 ≤ a → hty h' a = none) → C none h') :
    callG (wp G) d 90 31 17956 2 [.inr (.inl (some r))] h C X := by
  refine i_X11s H ht hf (fun h' ft' fr' fi' Z p1 p2 => ?_)
  obtain ⟨z1, z2, z3, z4⟩ := Z
  have ty : ∀ i, i < 32 → hty h' (r + i) = some (ft' i) := fun i hi => (z2 i hi).1
  have rf : ∀ j, hvr h' r j = (fr' 0 j).map (fun m => r + m) := fun j => ((z2 0 (by omega)).2 j).1
  have iv : ∀ i j, i < 32 → hvi h' (r + i) j = fi' i j := fun i j hi => ((z2 i hi).2 j).2
  have iv0 : ∀ j, hvi h' r j = if j = 22 then -1 else 0 := fun j => by
    have := iv 0 j (by omega)
    rw [p2] at this
    simpa using this
  have ivz : ∀ i j, 1 < i → i < 32 → ¬ i = 4 → ¬ i = 5 → hvi h' (r + i) j = 0 := fun i j h1 h2 h3 h4 => by
    rw [iv i j h2, p2, if_neg (by omega), if_neg (by omega), if_neg (by omega), if_neg (by omega), if_pos h2]
  have hRN : RN r h' := by
    refine ⟨by have := ty 0 (by omega); rw [p1.1] at this; exact this, fun p hp => ?_⟩
    obtain ⟨k1, k2⟩ := p1.2 p hp
    have k3 : ∀ p ∈ rTab, p.2.1 < 32 := by decide
    exact ⟨by rw [rf, k1]; rfl, by rw [ty _ (k3 p hp), k2]⟩
  have hRT : RT r h' T0 (fun _ => []) 0 := by
    refine ⟨by rw [iv0]; rfl, fun n hn => ?_, fun n v hn hT => ?_⟩
    · rw [iv 1 n (by omega), p2, if_neg (by omega), if_pos rfl]
      by_cases h0 : n = 0
      · subst h0; rfl
      · rw [if_neg h0, if_pos hn]; simp [tK, T0, h0]
    · obtain ⟨rfl, rfl⟩ := T0_some hT
      refine ⟨by rw [ivz 2 0 (by omega) (by omega) (by omega) (by omega)]; rfl, by rw [ivz 3 0 (by omega) (by omega) (by omega) (by omega)]; rfl, by rw [iv 4 0 (by omega), p2]; rfl, fun _ => ⟨by rw [iv 5 0 (by omega), p2]; rfl, by rw [ivz 6 0 (by omega) (by omega) (by omega) (by omega)]; rfl, ⟨by rw [ivz 9 0 (by omega) (by omega) (by omega) (by omega)]; rfl, Nat.zero_le _, fun k p hk => (by cases hk)⟩, List.Perm.refl _⟩, fun q => ?_⟩
      exfalso
      have q : (0 : Int) = 2 := q
      omega
  refine hC h' ⟨hRN, ⟨by rw [iv0]; rfl, fun i hi => absurd hi (Nat.not_lt_zero _)⟩, ⟨Nat.zero_le _, fun x hx => (by cases hx)⟩, hRT, fun j => by rw [ivz 12 j (by omega) (by omega) (by omega) (by omega)]; omega, ⟨by rw [iv0]; rfl, Nat.zero_le _, fun i hi => absurd hi (Nat.not_lt_zero _), fun x hx => (by cases hx)⟩, by rw [iv0]; rfl, by rw [iv0]; rfl⟩ z1 (fun i hi => ⟨_, ty i hi⟩) z3 z4
