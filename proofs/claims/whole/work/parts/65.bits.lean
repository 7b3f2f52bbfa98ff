/-! BITS of a whole number -/
def bt (e : Int) (j : Nat) : Bool := (BitVec.ofInt 32 e).getLsbD j
theorem bv_and (a b : Int) : BitVec.ofInt 32 (bAnd a b) = BitVec.ofInt 32 a &&& BitVec.ofInt 32 b := by
  show BitVec.ofInt 32 (BitVec.toInt (BitVec.ofInt 32 a &&& BitVec.ofInt 32 b)) = _
  rw [BitVec.ofInt_toInt]
theorem bv_or (a b : Int) : BitVec.ofInt 32 (bOr a b) = BitVec.ofInt 32 a ||| BitVec.ofInt 32 b := by
  show BitVec.ofInt 32 (BitVec.toInt (BitVec.ofInt 32 a ||| BitVec.ofInt 32 b)) = _
  rw [BitVec.ofInt_toInt]
theorem sh_am : ∀ k : Nat, k < 16 → ((Int32.ofInt (k : Int) &&& 31).toBitVec.smod 32).toNat = k := by decide
theorem bv_shl (a : Int) {k : Nat} (hk : k < 16) : BitVec.ofInt 32 (bShl a (k : Int)) = BitVec.ofInt 32 a <<< k := by
  show BitVec.ofInt 32 (BitVec.toInt (BitVec.ofInt 32 a <<< ((Int32.ofInt (k : Int) &&& 31).toBitVec.smod 32))) = _
  rw [BitVec.ofInt_toInt, BitVec.shiftLeft_eq', sh_am k hk]
theorem bv_shr (a : Int) {k : Nat} (hk : k < 16) : BitVec.ofInt 32 (bShr a (k : Int)) = (BitVec.ofInt 32 a).sshiftRight k := by
  show BitVec.ofInt 32 (BitVec.toInt (BitVec.sshiftRight' (BitVec.ofInt 32 a) ((Int32.ofInt (k : Int) &&& 31).toBitVec.smod 32))) = _
  rw [BitVec.ofInt_toInt, BitVec.sshiftRight_eq', sh_am k hk]
theorem bt_and (a b : Int) (j : Nat) : bt (bAnd a b) j = (bt a j && bt b j) := by
  unfold bt; rw [bv_and, BitVec.getLsbD_and]
theorem bt_or (a b : Int) (j : Nat) : bt (bOr a b) j = (bt a j || bt b j) := by
  unfold bt; rw [bv_or, BitVec.getLsbD_or]
theorem bt_2k {k j : Nat} (hk : k < 16) (hj : j < 32) : bt (bShl 2 (k : Int)) j = decide (j = k + 1) := by
  have key : ∀ k, k < 16 → ∀ j, j < 32 → (BitVec.ofInt 32 2 <<< k).getLsbD j = decide (j = k + 1) := by decide
  unfold bt; rw [bv_shl _ hk]; exact key k hk j hj
theorem bt_shr (e : Int) {k : Nat} (hk : k < 16) : bt (bShr e (k : Int)) 0 = bt e k := by
  unfold bt; rw [bv_shr _ hk, BitVec.getLsbD_sshiftRight]; simp; omega
theorem bt_ge (e : Int) {j : Nat} (hj : 32 ≤ j) : bt e j = false := BitVec.getLsbD_of_ge _ _ hj
theorem bt_bnd {e : Int} (h : ∀ j, 16 ≤ j → j < 32 → bt e j = false) (he : ∃ x : BitVec 32, e = x.toInt) : 0 ≤ e ∧ e < 65536 := by
  obtain ⟨x, rfl⟩ := he
  unfold bt at h
  rw [BitVec.ofInt_toInt] at h
  have h1 : x.toNat < 2 ^ 16 := by
    refine Nat.lt_pow_two_of_testBit _ (fun j hj => ?_)
    by_cases h32 : j < 32
    · exact h j hj h32
    · exact BitVec.getLsbD_of_ge x j (by omega)
  rw [BitVec.toInt_eq_toNat_of_lt (by omega)]
  omega
theorem bt_hi {e : Int} (h : 0 ≤ e ∧ e < 65536) {j : Nat} (hj : 16 ≤ j) : bt e j = false := by
  obtain ⟨n, rfl⟩ := Int.eq_ofNat_of_zero_le h.1
  unfold bt
  rw [BitVec.ofInt_natCast, BitVec.getLsbD_ofNat]
  have : n.testBit j = false := Nat.testBit_lt_two_pow (Nat.lt_of_lt_of_le (show n < 2 ^ 16 by omega) (Nat.pow_le_pow_right (by omega) hj))
  rw [this]; simp
theorem bt_one (e : Int) {k : Nat} (hk : k < 16) : bAnd (bShr e (k : Int)) 1 = b01 (bt e k) := by
  rw [← bt_shr e hk]
  generalize bShr e (k : Int) = x
  have h1 : ∀ y : BitVec 32, y &&& 1#32 = if y.getLsbD 0 then 1#32 else 0#32 := by
    intro y
    refine BitVec.eq_of_getLsbD_eq (fun i hi => ?_)
    rw [BitVec.getLsbD_and]
    cases i with
    | zero => cases h : y.getLsbD 0 <;> simp
    | succ i => 
      have : ∀ i, i < 31 → (1#32).getLsbD (i + 1) = false := by decide
      rw [this i (by omega)]
      cases h : y.getLsbD 0 <;> simp
  show ((BitVec.ofInt 32 x) &&& 1#32).toInt = b01 ((BitVec.ofInt 32 x).getLsbD 0)
  rw [h1]
  cases (BitVec.ofInt 32 x).getLsbD 0 <;> decide
def fLo (e : Int) (n : Nat) : Int := bAnd (bShl 2 (n : Int) - 1) (-(bAnd e (-e)))
theorem bv_neg (e : Int) : BitVec.ofInt 32 (-e) = -(BitVec.ofInt 32 e) := BitVec.ofInt_neg
theorem lst {p : Nat → Prop} : ∀ i, p i → ∃ j, j ≤ i ∧ p j ∧ ∀ k, k < j → ¬ p k := by
  intro i
  induction i using Nat.strongRecOn with
  | _ i ih =>
    intro h
    by_cases q : ∃ k, k < i ∧ p k
    · obtain ⟨k, hk, hp⟩ := q
      obtain ⟨j, h1, h2, h3⟩ := ih k hk hp
      exact ⟨j, by omega, h2, h3⟩
    · exact ⟨i, by omega, h, fun k hk hp => q ⟨k, hk, hp⟩⟩
theorem bt_lo (e : Int) {j : Nat} (hj : j < 32) : bt (-(bAnd e (-e))) j = decide (∃ i, i ≤ j ∧ bt e i = true) := by
  unfold bt
  rw [bv_neg, bv_and, bv_neg]
  generalize BitVec.ofInt 32 e = x
  have hy : ∀ i, i < 32 → ((x &&& -x).getLsbD i = true ↔ x.getLsbD i = true ∧ ¬ ∃ k, k < i ∧ x.getLsbD k = true) := by
    intro i hi
    rw [BitVec.getLsbD_and, BitVec.getLsbD_neg]
    by_cases h1 : x.getLsbD i = true
    · by_cases h2 : ∃ k, k < i ∧ x.getLsbD k = true
      · simp [h1, h2, hi]
      · simp [h1, h2, hi]
    · simp [h1]
  have hex : (∃ k, k < j ∧ (x &&& -x).getLsbD k = true) ↔ ∃ k, k < j ∧ x.getLsbD k = true := by
    constructor
    · rintro ⟨k, hk, h⟩
      exact ⟨k, hk, ((hy k (by omega)).mp h).1⟩
    · rintro ⟨k, hk, h⟩
      obtain ⟨i, h1, h2, h3⟩ := lst (p := fun k => x.getLsbD k = true) k h
      exact ⟨i, by omega, (hy i (by omega)).mpr ⟨h2, fun ⟨m, hm, q⟩ => h3 m hm q⟩⟩
  rw [BitVec.getLsbD_neg]
  have hyj := hy j hj
  by_cases h2 : ∃ k, k < j ∧ x.getLsbD k = true
  · have h3 := hex.mpr h2
    have h4 : (x &&& -x).getLsbD j = false := by
      cases hq : (x &&& -x).getLsbD j with
      | false => rfl
      | true => exact absurd h2 (hyj.mp hq).2
    have h5 : ∃ i, i ≤ j ∧ x.getLsbD i = true := by obtain ⟨k, hk, q⟩ := h2; exact ⟨k, by omega, q⟩
    rw [h4, decide_eq_true h3, decide_eq_true h5]; simp [hj]
  · have h3 : ¬ ∃ k, k < j ∧ (x &&& -x).getLsbD k = true := fun q => h2 (hex.mp q)
    rw [decide_eq_false h3]
    by_cases h1 : x.getLsbD j = true
    · have h5 : ∃ i, i ≤ j ∧ x.getLsbD i = true := ⟨j, by omega, h1⟩
      rw [decide_eq_true h5, hyj.mpr ⟨h1, h2⟩]; simp
    · have h5 : ¬ ∃ i, i ≤ j ∧ x.getLsbD i = true := by
        rintro ⟨i, hi, q⟩
        by_cases hij : i = j
        · subst hij; exact h1 q
        · exact h2 ⟨i, by omega, q⟩
      have h4 : (x &&& -x).getLsbD j = false := by
        cases hq : (x &&& -x).getLsbD j with
        | false => rfl
        | true => exact absurd (hyj.mp hq).1 h1
      rw [decide_eq_false h5, h4]; simp
theorem bt_up : ∀ n : Nat, n < 15 → ∀ j, j < 32 → bt (bShl 2 (n : Int) - 1) j = decide (j ≤ n) := by decide +kernel
theorem up_rng : ∀ n : Nat, n < 15 → 0 ≤ bShl 2 (n : Int) - 1 ∧ bShl 2 (n : Int) - 1 < 65536 := by decide +kernel
theorem bt_fLo {e : Int} {n j : Nat} (hn : n < 15) (hj : j < 32) : bt (fLo e n) j = (decide (j ≤ n) && decide (∃ i, i ≤ j ∧ bt e i = true)) := by
  unfold fLo; rw [bt_and, bt_up n hn j hj, bt_lo e hj]
theorem bnd_and {a b : Int} (h : 0 ≤ a ∧ a < 65536) : 0 ≤ bAnd a b ∧ bAnd a b < 65536 :=
  bt_bnd (fun j h1 _ => by rw [bt_and, bt_hi h h1]; rfl) ⟨_, rfl⟩
theorem bnd_or {a b : Int} (h : 0 ≤ a ∧ a < 65536) (h2 : 0 ≤ b ∧ b < 65536) : 0 ≤ bOr a b ∧ bOr a b < 65536 :=
  bt_bnd (fun j h1 _ => by rw [bt_or, bt_hi h h1, bt_hi h2 h1]; rfl) ⟨_, rfl⟩
theorem bnd_2k {k : Nat} (hk : k < 15) : 0 ≤ bShl 2 (k : Int) ∧ bShl 2 (k : Int) < 65536 := by
  have := up_rng k hk
  have key : ∀ n : Nat, n < 15 → bShl 2 (n : Int) ≤ 65535 := by decide +kernel
  have := key k hk
  omega
theorem bt_0 (j : Nat) : bt 0 j = false := by simp [bt]
theorem bt_1 (j : Nat) : bt 1 j = decide (j = 0) := by
  unfold bt
  by_cases h : j < 32
  · have key : ∀ j, j < 32 → (BitVec.ofInt 32 1).getLsbD j = decide (j = 0) := by decide
    exact key j h
  · rw [BitVec.getLsbD_of_ge _ _ (by omega)]; simp; omega
