theorem T0_some {n : Nat} {v : aN} (h : T0 n = some v) : n = 0 ∧ v = ((0, 0, 0), (7, 1, 0), [], []) := by
  unfold T0 at h
  by_cases hn : n = 0
  · rw [if_pos hn] at h; injection h with h; exact ⟨hn, h.symm⟩
  · rw [if_neg hn] at h; cases h
theorem i_X10 {G : Nat → Nat} {d c : Nat} {h0 h : mH} {C : mQ} {X : mX} {ft : Nat → Nat × Nat} {fr : Nat → Nat → Option Nat} {fi : Nat → Nat → Int} (hd : 4 ≤ d) (H : ST h0 c h 1 ft fr fi) (ht : ft 0 = (10, 7))
    (hC : ∀ h', CS c h' [] T0 0 [] 0 (-1) → hsz h' = c + 27 → (∀ a, a < c → hty h' a = hty h0 a ∧ ∀ j, hvr h' a j = hvr h0 a j ∧ hvi h' a j = hvi h0 a j ∧ hvl h' a j = hvl h0 a j) → C none h') :
    callG (wp G) d 69 26 3561 1 [.inr (.inl (some c))] h C X := by
  refine i_X10s hd H ht (fun h' ft' fr' fi' Z p1 p2 p3 p4 p5 => ?_)
  obtain ⟨z1, z2, z3, z4⟩ := Z
  have ty : ∀ i, i < 27 → hty h' (c + i) = some (ft' i) := fun i hi => (z2 i hi).1
  have rf : ∀ i j, i < 27 → hvr h' (c + i) j = (fr' i j).map (fun m => c + m) := fun i j hi => ((z2 i hi).2 j).1
  have iv : ∀ i j, i < 27 → hvi h' (c + i) j = fi' i j := fun i j hi => ((z2 i hi).2 j).2
  obtain ⟨a5, a6, a7, a8, a9, a10, a11⟩ := p3
  obtain ⟨b1, b2, b3, b4, b5, b6, b7⟩ := p4
  obtain ⟨e1, e2, e3, e4, e5, e6, e7, e8, e9, e10, e11, e12, e13⟩ := p5
  have hCF : CF c h' := by
    refine ⟨fun p hp => ?_, fun q hq => ?_⟩
    · have k1 : ∀ p ∈ cTy, p.1 < 27 := by decide
      rw [ty p.1 (k1 p hp), p1 p hp]
    · have k1 : ∀ q ∈ cRf, q.1 < 27 := by decide
      rw [rf q.1 q.2.1 (k1 q hq), p2 q hq]; rfl
  have v0 : ∀ {n : Nat} {v : aN}, T0 n = some v → n = 0 ∧ v = ((0, 0, 0), (7, 1, 0), [], []) := fun h => T0_some h
  have hr6 : ∀ n, hvr h' (c + 6) n = if n = 0 then some (c + 7) else none := fun n => by
    rw [rf 6 n (by omega)]
    by_cases hn : n = 0
    · rw [if_pos hn, hn, b2]; rfl
    · rw [if_neg hn, b3 n hn]; rfl
  have hND : ND h' (c + 7) ((0, 0, 0), (7, 1, 0), [], []) := by
    refine ⟨by rw [ty 7 (by omega), a7], by rw [iv 7 0 (by omega), e4]; rfl, by rw [iv 7 1 (by omega), e5]; rfl, by rw [iv 7 2 (by omega), e6]; rfl, by rw [rf 7 3 (by omega), b4]; rfl, by rw [rf 7 4 (by omega), b5]; rfl, by rw [iv 7 5 (by omega), e7]; rfl, by rw [iv 7 6 (by omega), e8]; rfl, by rw [iv 7 7 (by omega), e9]; rfl, by rw [iv 7 8 (by omega), e10]; rfl, ?_, fun i hi => absurd hi (Nat.not_lt_zero _), ⟨fun x hx => (by cases hx), Nat.zero_le _⟩, ?_, Nat.zero_le _, fun k p hk => (by cases hk)⟩
    · show hty h' (c + 8) = some (21, 0)
      rw [ty 8 (by omega), a8]
    · show hty h' (c + 9) = some (25, 12)
      rw [ty 9 (by omega), a9]
  have hTR : TR (c + 5) h' T0 0 := by
    refine ⟨by rw [ty 5 (by omega), a5], by rw [rf 5 0 (by omega), b1]; rfl, ?_, ?_, by rw [iv 5 2 (by omega), e3]; rfl, fun n hn hT => ?_, fun n v hn hT => ?_, fun n m a hn hm q1 q2 => ?_⟩
    · show hty h' (c + 6) = some (24, 48)
      rw [ty 6 (by omega), a6]
    · rw [iv 5 1 (by omega), e2]
      have : cnt T0 48 = 1 := by decide
      rw [this]; rfl
    · show hvr h' (c + 6) n = none
      rw [hr6, if_neg (fun q => by rw [q] at hT; simp [T0] at hT)]
    · obtain ⟨rfl, rfl⟩ := v0 hT
      exact ⟨c + 7, by show hvr h' (c + 6) 0 = some (c + 7); rw [hr6, if_pos rfl], hND⟩
    · have q1 : hvr h' (c + 6) n = some a := q1
      have q2 : hvr h' (c + 6) m = some a := q2
      rw [hr6] at q1 q2
      by_cases h1 : n = 0
      · by_cases h2 : m = 0
        · omega
        · rw [if_neg h2] at q2; cases q2
      · rw [if_neg h1] at q1; cases q1
  have hLI : LI (c + 1) h' [] := by
    refine ⟨⟨hCF.1 (1, 4, 5) (by decide), hCF.2 (1, 0, 2) (by decide), hCF.2 (1, 1, 3) (by decide), hCF.2 (1, 2, 4) (by decide), hCF.1 (2, 21, 100) (by decide), hCF.1 (3, 20, 50) (by decide), hCF.1 (4, 20, 50) (by decide)⟩, ⟨Nat.zero_le _, by rw [iv 1 3 (by omega), e11]; rfl, fun i hi => absurd hi (Nat.not_lt_zero _), by rw [iv 1 4 (by omega), e11]; rfl, fun k hk => absurd hk (Nat.not_lt_zero _)⟩, fun x hx => (by cases hx)⟩
  have hPG : PG (c + 12) h' [] := ⟨hCF.1 (12, 6, 3) (by decide), hCF.1 (13, 21, 1500) (by decide), by rw [iv 12 1 (by omega), e12]; rfl, Nat.zero_le _, fun i hi => absurd hi (Nat.not_lt_zero _), fun x hx => (by cases hx)⟩
  have hWY : WY (c + 10) (c + 5) h' := ⟨by rw [ty 10 (by omega), a10], by rw [rf 10 0 (by omega), b6]; rfl, by rw [rf 10 1 (by omega), b7]; rfl, by show hty h' (c + 11) = some (21, 420); rw [ty 11 (by omega), a11]⟩
  refine hC h' ⟨hCF, hLI, hTR, hWY, fun n v hn hT hk h0 => absurd (v0 hT).1 h0, hPG, by rw [iv 19 8 (by omega), e13], ?_, fun a ha => z4 a (by omega), wf_0⟩ z1 z3
  have := iv 0 6 (by omega)
  rw [e1] at this
  exact this
