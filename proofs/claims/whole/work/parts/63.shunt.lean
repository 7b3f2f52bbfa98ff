/-! EXPRESSIONS as trees: what the levels of the class compute, and the pile of the reference -/
abbrev bT : Type := Lean.Grind.CommRing.Expr
def lfD : bT → bT → aK
  | .pow (.num n) k, .pow (.num s) w => (k, w, n, s)
  | _, _ => (0, 0, 0, 0)
def bTt (x : aK) : bT := .sub (.pow (.num x.2.2.1) x.1) (.pow (.num x.2.2.2) x.2.1)
def evB {σ : Type} (F : aK → σ → Bool × σ) : bT → σ → Bool × σ
  | .neg x, s => (!(evB F x s).1, (evB F x s).2)
  | .mul x y, s => bif (evB F x s).1 then evB F y (evB F x s).2 else (false, (evB F x s).2)
  | .add x y, s => bif (evB F x s).1 then (true, (evB F x s).2) else evB F y (evB F x s).2
  | .sub x y, s => F (lfD x y) s
  | _, s => (true, s)
theorem evB_t {σ : Type} (F : aK → σ → Bool × σ) (t : aK) (s : σ) : evB F (bTt t) s = F t s := by simp [evB, bTt, lfD]
abbrev aW (σ : Type) : Type := List aL × aL × σ
def mst {σ : Type} (F : aK → σ → Bool × σ) (m : aW σ) (t : aK) : aW σ :=
  if t.1 = 1 then (m.1, ltn m.2.1, m.2.2)
  else if t.1 = 2 then (m.2.1 :: m.1, (lop m.2.1, false, true, false), m.2.2)
  else if t.1 = 3 then match m.1 with
    | w :: S => (S, ljn w (lva m.2.1), m.2.2)
    | [] => m
  else if t.1 = 4 then m
  else if t.1 = 5 then (m.1, lna m.2.1, m.2.2)
  else bif lop m.2.1 then (m.1, ljn m.2.1 (F t m.2.2).1, (F t m.2.2).2)
  else (m.1, ljn m.2.1 false, m.2.2)
/-- a level of the pile: what stands before OR, what before AND, how many NOT -/
abbrev aV : Type := Option bT × Option bT × Nat
abbrev aZ : Type := List aV × aV × Option bT
def nts : Nat → bT → bT
  | 0, e => e
  | k + 1, e => nts k (.neg e)
def coA : Option bT → bT → bT
  | none, e => e
  | some x, e => .mul x e
def coO : Option bT → bT → bT
  | none, e => e
  | some x, e => .add x e
def shA (z : aZ) : aZ := match z.2.2 with
  | some e => (z.1, (z.2.1.1, some (coA z.2.1.2.1 e), 0), none)
  | none => z
def shO (z : aZ) : aZ := match z.2.2 with
  | some e => (z.1, (some (coO z.2.1.1 (coA z.2.1.2.1 e)), none, 0), none)
  | none => z
def shC (z : aZ) : aZ := match z.2.2, z.1 with
  | some e, V :: Ls => (Ls, (V.1, V.2.1, 0), some (nts V.2.2 (coO z.2.1.1 (coA z.2.1.2.1 e))))
  | _, _ => z
def shT (t : aK) (z : aZ) : aZ := (z.1, (z.2.1.1, z.2.1.2.1, 0), some (nts z.2.1.2.2 (bTt t)))
def shN (z : aZ) : aZ := (z.1, (z.2.1.1, z.2.1.2.1, z.2.1.2.2 + 1), none)
def shP (z : aZ) : aZ := (z.2.1 :: z.1, (none, none, 0), none)
def shk (z : aZ) (t : aK) : aZ :=
  if t.1 = 1 then shN (shA z) else if t.1 = 2 then shP (shA z) else if t.1 = 3 then shC z else if t.1 = 4 then shA z else if t.1 = 5 then shO z else shT t (shA z)
def z0 : aZ := ([], (none, none, 0), none)
def opE {σ : Type} (F : aK → σ → Bool × σ) (b : Bool) (e : Option bT) (s : σ) (dv : Bool) : Bool × σ := match e with
  | none => (dv, s)
  | some e => bif b then evB F e s else (true, s)
def lvS {σ : Type} (F : aK → σ → Bool × σ) (b : Bool) (V : aV) (s : σ) : aL × σ :=
  ((b, (opE F b V.1 s false).1, (opE F (b && !(opE F b V.1 s false).1) V.2.1 (opE F b V.1 s false).2 true).1, V.2.2 % 2 == 1), (opE F (b && !(opE F b V.1 s false).1) V.2.1 (opE F b V.1 s false).2 true).2)
def stS {σ : Type} (F : aK → σ → Bool × σ) (s : σ) : List aV → Bool × List aL × σ
  | [] => (true, [], s)
  | V :: Ls => (lop (lvS F (stS F s Ls).1 V (stS F s Ls).2.2).1, (lvS F (stS F s Ls).1 V (stS F s Ls).2.2).1 :: (stS F s Ls).2.1, (lvS F (stS F s Ls).1 V (stS F s Ls).2.2).2)
def jnS {σ : Type} (F : aK → σ → Bool × σ) (e : bT) (r : aL × σ) : aL × σ := bif lop r.1 then (ljn r.1 (evB F e r.2).1, (evB F e r.2).2) else (ljn r.1 false, r.2)
def cuS {σ : Type} (F : aK → σ → Bool × σ) (c : Option bT) (r : aL × σ) : aL × σ := match c with
  | none => r
  | some e => jnS F e r
def mS {σ : Type} (F : aK → σ → Bool × σ) (s : σ) (z : aZ) : aW σ := ((stS F s z.1).2.1, cuS F z.2.2 (lvS F (stS F s z.1).1 z.2.1 (stS F s z.1).2.2))
theorem nts_ev {σ : Type} (F : aK → σ → Bool × σ) : ∀ (k : Nat) (e : bT) (s : σ), evB F (nts k e) s = (xor (evB F e s).1 (k % 2 == 1), (evB F e s).2) := by
  intro k
  induction k with
  | zero => intro e s; simp [nts]
  | succ k ih =>
    intro e s
    rw [nts, ih]
    simp only [evB]
    rcases Nat.mod_two_eq_zero_or_one k with h | h
    · rw [h, show (k + 1) % 2 = 1 by omega]; cases (evB F e s).1 <;> rfl
    · rw [h, show (k + 1) % 2 = 0 by omega]; cases (evB F e s).1 <;> rfl
theorem lvS_opn {σ : Type} (F : aK → σ → Bool × σ) (b : Bool) (V : aV) (s : σ) : (lvS F b V s).1.1 = b := rfl
/-- AND taken off: the same levels -/
theorem mS_A {σ : Type} (F : aK → σ → Bool × σ) (s : σ) (z : aZ) (hk : z.2.2 = none ∨ z.2.1.2.2 = 0) : mS F s (shA z) = mS F s z := by
  obtain ⟨Ls, ⟨o, a, k⟩, c⟩ := z
  cases c with
  | none => rfl
  | some e =>
    simp at hk
    subst hk
    simp only [shA, mS, cuS]
    generalize stS F s Ls = q
    obtain ⟨b, S, s1⟩ := q
    simp only
    congr 1
    simp only [lvS, jnS]
    generalize opE F b o s1 false = r
    obtain ⟨x, s2⟩ := r
    cases a with
    | none => cases b <;> cases x <;> simp [opE, lop, ljn, coA]
    | some a =>
      cases b <;> cases x <;> simp [opE, lop, ljn, coA, evB]
      cases (evB F a s2).1 <;> simp
theorem mS_O {σ : Type} (F : aK → σ → Bool × σ) (s : σ) (z : aZ) (hc : ¬ z.2.2 = none) (hk : z.2.1.2.2 = 0) : mS F s (shO z) = ((mS F s z).1, lna (mS F s z).2.1, (mS F s z).2.2) := by
  rw [← mS_A F s z (Or.inr hk)]
  obtain ⟨Ls, ⟨o, a, k⟩, c⟩ := z
  cases c with
  | none => exact absurd rfl hc
  | some e =>
    simp at hk
    subst hk
    simp only [shA, shO, mS, cuS]
    generalize coA a e = e
    generalize stS F s Ls = q
    obtain ⟨b, S, s1⟩ := q
    simp only
    congr 1
    simp only [lvS]
    cases o with
    | none => cases b <;> simp [opE, lna, coO]
    | some o =>
      cases b <;> simp [opE, lna, coO, evB]
      cases (evB F o s1).1 <;> simp
theorem lvE {σ : Type} (F : aK → σ → Bool × σ) (z : aZ) (e : bT) (s : σ) (hc : z.2.2 = some e) (hk : z.2.1.2.2 = 0) : 
    (lva (mS F s z).2.1, (mS F s z).2.2) = (bif (stS F s z.1).1 then evB F (coO z.2.1.1 (coA z.2.1.2.1 e)) (stS F s z.1).2.2 else (true, (stS F s z.1).2.2)) := by
  have h1 := mS_O F s z (by rw [hc]; simp) hk
  obtain ⟨Ls, ⟨o, a, k⟩, c⟩ := z
  simp at hk hc
  subst hk; subst hc
  simp only [shO] at h1
  have h2 : (lna (mS F s (Ls, (o, a, 0), some e)).2.1).2.1 = lva (mS F s (Ls, (o, a, 0), some e)).2.1 := rfl
  rw [← h2, show (lna (mS F s (Ls, (o, a, 0), some e)).2.1) = (mS F s (Ls, (some (coO o (coA a e)), none, 0), none)).2.1 by rw [h1], show (mS F s (Ls, (o, a, 0), some e)).2.2 = (mS F s (Ls, (some (coO o (coA a e)), none, 0), none)).2.2 by rw [h1]]
  simp only [mS, cuS, lvS]
  generalize stS F s Ls = q
  obtain ⟨b, S, s1⟩ := q
  cases b <;> simp [opE]
theorem mS_C {σ : Type} (F : aK → σ → Bool × σ) (s : σ) (z : aZ) (hc : ¬ z.2.2 = none) (hk : z.2.1.2.2 = 0) (hL : ¬ z.1 = []) : mS F s (shC z) = mst F (mS F s z) (3, 0, 0, 0) := by
  obtain ⟨Ls, ⟨o, a, k⟩, c⟩ := z
  cases c with
  | none => exact absurd rfl hc
  | some e =>
    cases Ls with
    | nil => exact absurd rfl hL
    | cons V Ls =>
      simp at hk
      subst hk
      have h1 := lvE F (V :: Ls, (o, a, 0), some e) e s rfl rfl
      simp only at h1
      have h3 : (mS F s (V :: Ls, (o, a, 0), some e)).1 = (stS F s (V :: Ls)).2.1 := rfl
      unfold mst
      rw [h3]
      simp only [Nat.reduceEqDiff, if_false, if_true]
      simp only [stS]
      have e1 : lva (mS F s (V :: Ls, (o, a, 0), some e)).2.1 = _ := congrArg (fun p : Bool × σ => p.1) h1
      have e2 : (mS F s (V :: Ls, (o, a, 0), some e)).2.2 = _ := congrArg (fun p : Bool × σ => p.2) h1
      rw [e1, e2]
      simp only [shC, mS, cuS, stS]
      generalize coO o (coA a e) = e
      generalize stS F s Ls = q
      obtain ⟨b, S, s1⟩ := q
      obtain ⟨o1, a1, k1⟩ := V
      simp only
      congr 1
      have hl : lvS F b (o1, a1, 0) s1 = (((lvS F b (o1, a1, k1) s1).1.1, (lvS F b (o1, a1, k1) s1).1.2.1, (lvS F b (o1, a1, k1) s1).1.2.2.1, false), (lvS F b (o1, a1, k1) s1).2) := rfl
      have ht : (lvS F b (o1, a1, k1) s1).1.2.2.2 = (k1 % 2 == 1) := rfl
      rw [hl]
      generalize lvS F b (o1, a1, k1) s1 = r at *
      obtain ⟨⟨b2, x2, y2, t2⟩, s2⟩ := r
      simp only at ht
      subst ht
      simp only [jnS, nts_ev]
      cases b2 <;> cases x2 <;> cases y2 <;> simp [lop, ljn]
theorem mS_step {σ : Type} (F : aK → σ → Bool × σ) (s : σ) (z : aZ) (t : aK) (hk : ¬ z.2.2 = none → z.2.1.2.2 = 0) (h3 : 3 ≤ t.1 → t.1 ≤ 5 → ¬ z.2.2 = none) (hL : t.1 = 3 → ¬ z.1 = []) : mS F s (shk z t) = mst F (mS F s z) t := by
  have hkA : z.2.2 = none ∨ z.2.1.2.2 = 0 := by
    by_cases h : z.2.2 = none
    · exact Or.inl h
    · exact Or.inr (hk h)
  have hA := mS_A F s z hkA
  have hAn : (shA z).2.2 = none := by
    unfold shA
    cases h : z.2.2 with
    | none => exact h
    | some e => rfl
  unfold shk mst
  by_cases t1 : t.1 = 1
  · rw [if_pos t1, if_pos t1, ← hA]
    generalize shA z = z at *
    obtain ⟨Ls, ⟨o, a, k⟩, c⟩ := z
    simp at hAn
    subst hAn
    simp only [shN, mS, cuS, lvS, ltn]
    rcases Nat.mod_two_eq_zero_or_one k with h | h
    · rw [h, show (k + 1) % 2 = 1 by omega]; rfl
    · rw [h, show (k + 1) % 2 = 0 by omega]; rfl
  · rw [if_neg t1, if_neg t1]
    by_cases t2 : t.1 = 2
    · rw [if_pos t2, if_pos t2, ← hA]
      generalize shA z = z at *
      obtain ⟨Ls, ⟨o, a, k⟩, c⟩ := z
      simp at hAn
      subst hAn
      simp only [shP, mS, cuS, stS]
      simp [lvS, opE]
    · rw [if_neg t2, if_neg t2]
      by_cases t3 : t.1 = 3
      · rw [if_pos t3, if_pos t3]
        have := mS_C F s z (h3 (by omega) (by omega)) (hk (h3 (by omega) (by omega))) (hL t3)
        rw [this]
        rfl
      · rw [if_neg t3, if_neg t3]
        by_cases t4 : t.1 = 4
        · rw [if_pos t4, if_pos t4]; exact hA
        · rw [if_neg t4, if_neg t4]
          by_cases t5 : t.1 = 5
          · rw [if_pos t5, if_pos t5]
            exact mS_O F s z (h3 (by omega) (by omega)) (hk (h3 (by omega) (by omega)))
          · rw [if_neg t5, if_neg t5, ← hA]
            generalize shA z = z at *
            obtain ⟨Ls, ⟨o, a, k⟩, c⟩ := z
            simp at hAn
            subst hAn
            simp only [shT, mS, cuS]
            generalize stS F s Ls = q
            obtain ⟨b, S, s1⟩ := q
            simp only
            have hl : lvS F b (o, a, 0) s1 = (((lvS F b (o, a, k) s1).1.1, (lvS F b (o, a, k) s1).1.2.1, (lvS F b (o, a, k) s1).1.2.2.1, false), (lvS F b (o, a, k) s1).2) := rfl
            have ht : (lvS F b (o, a, k) s1).1.2.2.2 = (k % 2 == 1) := rfl
            rw [hl]
            generalize lvS F b (o, a, k) s1 = r at *
            obtain ⟨⟨b2, x2, y2, t2⟩, s2⟩ := r
            simp only at ht
            subst ht
            simp only [jnS, nts_ev, evB_t]
            cases b2 <;> cases x2 <;> cases y2 <;> simp [lop, ljn]
