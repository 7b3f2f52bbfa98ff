/-! THE WAY through the tree -/
abbrev aU : Type := aS × Int
def sl (P : List Int) : List Int := if lf P (P.length - 1) = 47 then P else P ++ [47]
def asN (L : List Int) (T : aT) (here : Nat) (K : List aK) (pr : Int) (v : aN) (w P : List Int) (s : aS) : aS := askM (tsF L T here pr v w P) K P s
def dpK (K : List aK) : Bool := K.any (fun t => t.1 == 14)
def fld (V : Nat → List Int → List Int → aU → aU) (P : List Int) : List aE → aU → aU
  | [], u => u
  | p :: E, u => if u.1.2.2.2 = true then u else fld V P E (V p.2 p.1 (P ++ p.1) u)
abbrev nrt (v : aN) : Prop := bAnd (nB v) 4 = 0 ∨ bAnd (nB v) 1 = 0
def bel (V : Nat → List Int → List Int → aU → aU) (v : aN) (P : List Int) (u : aU) : aU := if nrt v then (u.1, u.2 + 1) else fld V (sl P) (nE v) u
def vs1 (L : List Int) (T : aT) (here : Nat) (K : List aK) (pr : Int) (v : aN) (w P : List Int) (s : aS) : aS := if dpK K = true then (false, s.2) else asN L T here K pr v w P (false, s.2)
def vs2 (V : Nat → List Int → List Int → aU → aU) (K : List aK) (v : aN) (P : List Int) (u : aU) : aU := if nK v = 0 ∧ ¬ (u.1.1 = true ∧ dpK K = false) ∧ u.1.2.2.2 = false then bel V v P u else u
def vs3 (L : List Int) (T : aT) (here : Nat) (K : List aK) (pr : Int) (v : aN) (w P : List Int) (u : aU) : aU := if dpK K = true ∧ u.1.2.2.2 = false then (asN L T here K pr v w P u.1, u.2) else u
def vis (L : List Int) (T : aT) (here : Nat) (K : List aK) (pr : Int) : Nat → Nat → List Int → List Int → aU → aU
  | 0, _, _, _, u => u
  | f + 1, n, w, P, u => match T n with
    | none => u
    | some v => if u.1.2.2.2 = true then u else vs3 L T here K pr v w P (vs2 (fun n w P u => vis L T here K pr f n w P u) K v P (vs1 L T here K pr v w P u.1, u.2))
/-- the nodes from which the way up leads through n -/
def anB (T : aT) (n : Nat) : Nat → Nat → Bool
  | 0, m => m == n
  | f + 1, m => (m == n) || (!(m == 0) && anB T n f (tA T m))
def wt (T : aT) (n : Nat) : Nat := if tK T n = 0 then (List.range 48).countP (fun m => decide (tK T m = 0) && anB T n 47 m) else 0
def wtE (T : aT) (E : List aE) : Nat := (E.map (fun p => wt T p.2)).sum
theorem wt_48 (T : aT) (n : Nat) : wt T n ≤ 48 := by
  unfold wt
  by_cases h : tK T n = 0
  · rw [if_pos h]; have := List.countP_le_length (p := fun m => decide (tK T m = 0) && anB T n 47 m) (l := List.range 48); simp at this; exact this
  · rw [if_neg h]; omega
theorem sum_zero {α : Type} : ∀ l : List α, (l.map (fun _ => 0)).sum = 0 := by
  intro l
  induction l with
  | nil => rfl
  | cons a l ih => simp [ih]
theorem tK_up {T : aT} {here m : Nat} (h : wf T here) (hk : tK T m = 0) (h0 : ¬ m = 0) : tK T (tA T m) = 0 := by
  obtain ⟨v, hT, hkv⟩ := tK_ge hk
  obtain ⟨s, u, -, hu, hku, -⟩ := wf_up h hT hkv h0
  rw [tA_some hT, tK_some hu]; exact hku
theorem anB_rho {T : aT} {here : Nat} {ρ : Nat → Nat} (h : wf T here) (hρ : ∀ n v, T n = some v → nK v = 0 → ¬ n = 0 → ρ (nA v) < ρ n) {n : Nat} : ∀ f m, tK T m = 0 → anB T n f m = true → ρ n ≤ ρ m := by
  intro f
  induction f with
  | zero => intro m _ ha; simp [anB] at ha; rw [ha]; exact Nat.le_refl _
  | succ f ih =>
    intro m hk ha
    simp only [anB, Bool.or_eq_true, Bool.and_eq_true] at ha
    rcases ha with ha | ⟨h0, ha⟩
    · simp at ha; rw [ha]; exact Nat.le_refl _
    · simp at h0
      have h1 := ih (tA T m) (tK_up h hk h0) ha
      obtain ⟨v, hT, hkv⟩ := tK_ge hk
      have h2 := hρ m v hT hkv h0
      rw [tA_some hT] at h1
      omega
theorem anB_two {T : aT} {here : Nat} {ρ : Nat → Nat} (h : wf T here) (hρ : ∀ n v, T n = some v → nK v = 0 → ¬ n = 0 → ρ (nA v) < ρ n) {n a b : Nat} (hn : tK T n = 0) (ha0 : ¬ a = 0) (hb0 : ¬ b = 0) (hka : tK T a = 0) (hkb : tK T b = 0) (ha : tA T a = n) (hb : tA T b = n) : ∀ f g m, tK T m = 0 → anB T a f m = true → anB T b g m = true → a = b := by
  have lt : ∀ x, ¬ x = 0 → tK T x = 0 → tA T x = n → ρ n < ρ x := fun x h0 hk hx => by
    obtain ⟨v, hT, hkv⟩ := tK_ge hk
    have := hρ x v hT hkv h0
    rw [tA_some hT] at hx
    rw [hx] at this
    exact this
  have key : ∀ x y g, ¬ x = 0 → tK T x = 0 → tA T x = n → ¬ y = 0 → tK T y = 0 → tA T y = n → anB T y g x = true → x = y := by
    intro x y g x0 xk xn y0 yk yn hy
    cases g with
    | zero => simp [anB] at hy; exact hy
    | succ g =>
      simp only [anB, Bool.or_eq_true, Bool.and_eq_true] at hy
      rcases hy with hy | ⟨_, hy⟩
      · simpa using hy
      · rw [xn] at hy
        have h1 := anB_rho h hρ g n hn hy
        have h2 := lt y y0 yk yn
        omega
  intro f
  induction f with
  | zero =>
    intro g m hm h1 h2
    simp [anB] at h1
    subst h1
    exact key m b g ha0 hka ha hb0 hkb hb h2
  | succ f ih =>
    intro g m hm h1 h2
    simp only [anB, Bool.or_eq_true, Bool.and_eq_true] at h1
    rcases h1 with h1 | ⟨m0, h1⟩
    · simp at h1
      subst h1
      exact key m b g ha0 hka ha hb0 hkb hb h2
    · cases g with
      | zero =>
        simp [anB] at h2
        subst h2
        exact (key m a (f + 1) hb0 hkb hb ha0 hka ha (by simp only [anB, Bool.or_eq_true, Bool.and_eq_true]; exact Or.inr ⟨m0, h1⟩)).symm
      | succ g =>
        have h2' := h2
        simp only [anB, Bool.or_eq_true, Bool.and_eq_true] at h2
        rcases h2 with h2 | ⟨_, h2⟩
        · simp at h2
          subst h2
          exact (key m a (f + 1) hb0 hkb hb ha0 hka ha (by simp only [anB, Bool.or_eq_true, Bool.and_eq_true]; exact Or.inr ⟨m0, h1⟩)).symm
        · simp at m0
          exact ih g (tA T m) (tK_up h hm m0) h1 h2
theorem anB_fuel {T : aT} {n : Nat} : ∀ g f m, rch T g m → anB T n f m = true → anB T n g m = true := by
  intro g
  induction g with
  | zero =>
    intro f m hr ha
    have hr : m = 0 := hr
    cases f with
    | zero => exact ha
    | succ f => simp [anB, hr] at ha; simp [anB, hr, ha]
  | succ g ih =>
    intro f m hr ha
    cases f with
    | zero => simp [anB] at ha; simp [anB, ha]
    | succ f =>
      simp only [anB, Bool.or_eq_true, Bool.and_eq_true] at ha ⊢
      rcases ha with ha | ⟨m0, ha⟩
      · exact Or.inl ha
      · simp at m0
        exact Or.inr ⟨by simp [m0], ih f _ (hr.resolve_left m0) ha⟩
theorem anB_next {T : aT} {n c : Nat} (h0 : ¬ c = 0) (hc : tA T c = n) : ∀ f m, anB T c f m = true → anB T n (f + 1) m = true := by
  intro f
  induction f with
  | zero =>
    intro m ha
    simp [anB] at ha
    subst ha
    simp [anB, h0, hc]
  | succ f ih =>
    intro m ha
    simp only [anB, Bool.or_eq_true, Bool.and_eq_true] at ha
    rcases ha with ha | ⟨m0, ha⟩
    · simp at ha
      subst ha
      simp [anB, h0, hc]
    · rw [anB, Bool.or_eq_true, Bool.and_eq_true]
      exact Or.inr ⟨m0, ih _ ha⟩
theorem sum_one {α : Type} (q : α → Bool) : ∀ l : List α, l.Pairwise (fun a b => ¬ (q a = true ∧ q b = true)) → (l.map (fun a => if q a = true then 1 else 0)).sum ≤ 1 ∧ ((l.map (fun a => if q a = true then 1 else 0)).sum = 1 → ∃ a ∈ l, q a = true) := by
  intro l
  induction l with
  | nil => intro _; simp
  | cons a l ih =>
    intro hp
    rw [List.pairwise_cons] at hp
    obtain ⟨i1, i2⟩ := ih hp.2
    simp only [List.map_cons, List.sum_cons]
    by_cases ha : q a = true
    · have : (l.map (fun a => if q a = true then 1 else 0)).sum = 0 := by
        by_cases h1 : (l.map (fun a => if q a = true then 1 else 0)).sum = 1
        · obtain ⟨b, hb, hq⟩ := i2 h1
          exact absurd ⟨ha, hq⟩ (hp.1 b hb)
        · omega
      rw [if_pos ha, this]
      exact ⟨by omega, fun _ => ⟨a, List.mem_cons_self, ha⟩⟩
    · rw [if_neg ha]
      refine ⟨by omega, fun q => ?_⟩
      obtain ⟨b, hb, hq⟩ := i2 (by omega)
      exact ⟨b, List.mem_cons_of_mem _ hb, hq⟩
theorem wt_bel {T : aT} {here n : Nat} {v : aN} (h : wf T here) (hT : T n = some v) (hk : nK v = 0) : 1 + wtE T (nE v) ≤ wt T n := by
  obtain ⟨ρ, hρ⟩ := h.2.2.2.2
  have hkn : tK T n = 0 := by rw [tK_some hT]; exact hk
  have hn48 := wf_lt h hT
  have hN := h.2.2.2.1 n v hT
  have hun := wf_unq h n v hn48 hT
  have hE : ∀ p ∈ nE v, tK T p.2 = 0 → ¬ p.2 = 0 ∧ tA T p.2 = n ∧ p.1 = nmO T p.2 := by
    intro p hp hpk
    have h0 := (hN.2.2.2.2.2.2.1 p hp).2.1
    obtain ⟨u, hu, hku⟩ := tK_ge hpk
    have := one_tie (s := p.1) (d := n) h hu hku h0 (by rw [tE_some hT]; exact hp)
    exact ⟨h0, by rw [tA_some hu]; exact this.1.symm, this.2⟩
  let A : aE → Nat → Bool := fun p m => decide (tK T p.2 = 0) && (decide (tK T m = 0) && anB T p.2 47 m)
  have hA : ∀ p : aE, wt T p.2 = (List.range 48).countP (A p) := by
    intro p
    unfold wt
    by_cases hp : tK T p.2 = 0
    · rw [if_pos hp]
      congr 1
      funext m
      show _ = (decide (tK T p.2 = 0) && (decide (tK T m = 0) && anB T p.2 47 m))
      simp [hp]
    · rw [if_neg hp]
      symm
      rw [List.countP_eq_zero]
      intro m _
      show ¬ (decide (tK T p.2 = 0) && (decide (tK T m = 0) && anB T p.2 47 m)) = true
      simp [hp]
  have hpt : ∀ m, ((nE v).map (fun p => if A p m = true then 1 else 0)).sum + (if (m == n) = true then 1 else 0) ≤ (if (decide (tK T m = 0) && anB T n 47 m) = true then 1 else 0) := by
    intro m
    have hpw : (nE v).Pairwise (fun p p' => ¬ (A p m = true ∧ A p' m = true)) := by
      refine List.Pairwise.imp_of_mem ?_ hun
      intro p p' hp hp' hne ⟨h1, h2⟩
      have h1 : (decide (tK T p.2 = 0) && (decide (tK T m = 0) && anB T p.2 47 m)) = true := h1
      have h2 : (decide (tK T p'.2 = 0) && (decide (tK T m = 0) && anB T p'.2 47 m)) = true := h2
      simp only [Bool.and_eq_true, decide_eq_true_eq] at h1 h2
      obtain ⟨e1, e2, e3⟩ := hE p hp h1.1
      obtain ⟨g1, g2, g3⟩ := hE p' hp' h2.1
      have := anB_two h hρ hkn e1 g1 h1.1 h2.1 e2 g2 47 47 m h1.2.1 h1.2.2 h2.2.2
      exact hne (by rw [e3, g3, this])
    obtain ⟨s1, s2⟩ := sum_one (fun p => A p m) (nE v) hpw
    by_cases hs : ((nE v).map (fun p => if A p m = true then 1 else 0)).sum = 1
    · obtain ⟨p, hp, hq⟩ := s2 hs
      have hq : (decide (tK T p.2 = 0) && (decide (tK T m = 0) && anB T p.2 47 m)) = true := hq
      simp only [Bool.and_eq_true, decide_eq_true_eq] at hq
      obtain ⟨e1, e2, e3⟩ := hE p hp hq.1
      have hr := rch_all h m hq.2.1
      have ha := anB_fuel 47 48 m hr (anB_next e1 e2 47 m hq.2.2)
      have hmn : ¬ m = n := by
        intro q
        subst q
        have h1 := anB_rho h hρ 47 m hq.2.1 hq.2.2
        obtain ⟨u, hu, hku⟩ := tK_ge hq.1
        have h2 := hρ p.2 u hu hku e1
        rw [tA_some hu] at e2
        rw [e2] at h2
        omega
      rw [hs]
      simp [hmn, hq.2.1, ha]
    · have hs0 : ((nE v).map (fun p => if A p m = true then 1 else 0)).sum = 0 := by omega
      rw [hs0]
      by_cases hmn : m = n
      · subst hmn; simp [hkn, anB]
      · simp [hmn]
  have hfin : ∀ (E : List aE) (l : List Nat), (∀ m, (E.map (fun p => if A p m = true then 1 else 0)).sum + (if (m == n) = true then 1 else 0) ≤ (if (decide (tK T m = 0) && anB T n 47 m) = true then 1 else 0)) → (E.map (fun p => l.countP (A p))).sum + l.countP (fun m => m == n) ≤ l.countP (fun m => decide (tK T m = 0) && anB T n 47 m) := by
    intro E l hp
    induction l with
    | nil => simp [sum_zero]
    | cons m l ih =>
      have h2 := hp m
      have hs : ∀ (C : List aE), (C.map (fun c => (m :: l).countP (A c))).sum = (C.map (fun c => l.countP (A c))).sum + (C.map (fun c => if A c m = true then 1 else 0)).sum := by
        intro C
        induction C with
        | nil => rfl
        | cons c C ih2 =>
          have h5 : (m :: l).countP (A c) = l.countP (A c) + (if A c m = true then 1 else 0) := List.countP_cons
          simp only [List.map_cons, List.sum_cons, ih2, h5]
          generalize (if A c m = true then 1 else 0) = zz
          omega
      rw [hs, List.countP_cons, List.countP_cons]
      omega
  have h1 := hfin (nE v) (List.range 48) hpt
  have h2 : 1 ≤ (List.range 48).countP (fun m => m == n) := List.countP_pos_iff.mpr ⟨n, List.mem_range.mpr hn48, by simp⟩
  have h3 : wtE T (nE v) = ((nE v).map (fun p => (List.range 48).countP (A p))).sum := by
    unfold wtE
    congr 1
    exact List.map_congr_left (fun p _ => hA p)
  have h4 : wt T n = (List.range 48).countP (fun m => decide (tK T m = 0) && anB T n 47 m) := by unfold wt; rw [if_pos hkn]
  rw [h3, h4]
  omega
/-- complaints grow by the directories below at most -/
theorem fld_cp {T : aT} {V : Nat → List Int → List Int → aU → aU} (hV : ∀ n w P u, u.2 ≤ (V n w P u).2 ∧ (V n w P u).2 ≤ u.2 + (wt T n : Int)) (P : List Int) : ∀ (E : List aE) (u : aU), u.2 ≤ (fld V P E u).2 ∧ (fld V P E u).2 ≤ u.2 + (wtE T E : Int) := by
  intro E
  induction E with
  | nil => intro u; simp [fld]; omega
  | cons p E ih =>
    intro u
    have hw : wtE T (p :: E) = wt T p.2 + wtE T E := by simp [wtE]
    simp only [fld]
    by_cases hf : u.1.2.2.2 = true
    · rw [if_pos hf]; omega
    · rw [if_neg hf]
      have h1 := hV p.2 p.1 (P ++ p.1) u
      have h2 := ih (V p.2 p.1 (P ++ p.1) u)
      omega
theorem vis_cp {L : List Int} {T : aT} {here : Nat} {K : List aK} {pr : Int} (h : wf T here) : ∀ f n w P u, u.2 ≤ (vis L T here K pr f n w P u).2 ∧ (vis L T here K pr f n w P u).2 ≤ u.2 + (wt T n : Int) := by
  intro f
  induction f with
  | zero => intro n w P u; simp [vis]; omega
  | succ f ih =>
    intro n w P u
    simp only [vis]
    cases hT : T n with
    | none => simp; omega
    | some v =>
      simp only
      by_cases hf : u.1.2.2.2 = true
      · rw [if_pos hf]; omega
      · rw [if_neg hf]
        have h3 : ∀ u : aU, (vs3 L T here K pr v w P u).2 = u.2 := fun u => by unfold vs3; split <;> rfl
        rw [h3]
        unfold vs2
        split
        · rename_i hc
          unfold bel
          have hw := wt_bel h hT hc.1
          split
          · simp only; omega
          · have := fld_cp (T := T) ih (sl P) (nE v) (vs1 L T here K pr v w P u.1, u.2)
            simp only at this ⊢
            have e5 : (fun n w P u => vis L T here K pr f n w P u) = vis L T here K pr f := rfl
            rw [e5]
            omega
        · simp only; omega
