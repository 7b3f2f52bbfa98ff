def wpE (G : Nat → Nat) (N : mN) : mN := fun d k pc ls st h bc bs Q X => match mcode k pc with
  | some e => wpi G N e d k pc ls st h bc bs Q X
  | none => False
/-- the least that the rules give -/
def wp (G : Nat → Nat) : mN := fun d k pc ls st h bc bs Q X =>
  ∀ P : mN, (∀ d k pc ls st h bc bs Q X, wpE G P d k pc ls st h bc bs Q X → P d k pc ls st h bc bs Q X) → P d k pc ls st h bc bs Q X
theorem callG_mono {N N' : mN} (hN : ∀ d k pc ls st h bc bs Q X, N d k pc ls st h bc bs Q X → N' d k pc ls st h bc bs Q X) {d kk mc ms mx : Nat} {args : List mV} {h : mH} {C C' : mQ} {X X' : mX} (hC : ∀ v h', C v h' → C' v h') (hX : ∀ e h', X e h' → X' e h')
    (hw : callG N d kk mc ms mx args h C X) : callG N' d kk mc ms mx args h C' X' := by
  obtain ⟨Qc, Xc, h1, h2, h3⟩ := hw
  exact ⟨Qc, Xc, hN _ _ _ _ _ _ _ _ _ _ h1, fun v h' q => hC _ _ (h2 v h' q), fun e h' q => hX _ _ (h3 e h' q)⟩
theorem swl_mono {N N' : Nat → Prop} (hN : ∀ t, N t → N' t) : ∀ (ts : List Nat) (lo z : Int), swl N lo ts z → swl N' lo ts z
  | [], _, _, _ => trivial
  | t :: ts, _, _, h => ⟨fun q => hN t (h.1 q), swl_mono hN ts _ _ h.2⟩
set_option maxHeartbeats 4000000 in
set_option maxRecDepth 100000 in
theorem wpi_mono {G : Nat → Nat} {N N' : mN} (hN : ∀ d k pc ls st h bc bs Q X, N d k pc ls st h bc bs Q X → N' d k pc ls st h bc bs Q X) {e : mE} {d k pc : Nat} {ls : List (Option mV)} {st : List mV} {h : mH} {bc bs : Nat} {Q : mQ} {X : mX} :
    wpi G N e d k pc ls st h bc bs Q X → wpi G N' e d k pc ls st h bc bs Q X := by
  unfold wpi
  split <;> (try split) <;> (try split) <;> (try split) <;> intro hw <;>
    first
      | exact hw
      | exact hN _ _ _ _ _ _ _ _ _ _ hw
      | exact ⟨hw.1, hN _ _ _ _ _ _ _ _ _ _ hw.2⟩
      | exact ⟨hw.1, hw.2.1, hN _ _ _ _ _ _ _ _ _ _ hw.2.2⟩
      | exact ⟨hw.1, hw.2.1, hw.2.2.1, hN _ _ _ _ _ _ _ _ _ _ hw.2.2.2⟩
      | exact ⟨hw.1, hw.2.1, hw.2.2.1, hw.2.2.2.1, hN _ _ _ _ _ _ _ _ _ _ hw.2.2.2.2⟩
      | exact ⟨fun q => hN _ _ _ _ _ _ _ _ _ _ (hw.1 q), fun q => hN _ _ _ _ _ _ _ _ _ _ (hw.2 q)⟩
      | exact ⟨fun q => hN _ _ _ _ _ _ _ _ _ _ (hw.1 q), swl_mono (fun t q => hN _ _ _ _ _ _ _ _ _ _ q) _ _ _ hw.2⟩
      | exact fun r => hN _ _ _ _ _ _ _ _ _ _ (hw r)
      | (obtain ⟨i9, h9, hw⟩ := hw; exact ⟨i9, h9, hN _ _ _ _ _ _ _ _ _ _ hw⟩)
      | (obtain ⟨i9, h9, h8, hw⟩ := hw; exact ⟨i9, h9, h8, hN _ _ _ _ _ _ _ _ _ _ hw⟩)
      | (obtain ⟨i9, h9, hw⟩ := hw; refine ⟨i9, h9, ?_⟩; split at hw <;> exact hN _ _ _ _ _ _ _ _ _ _ hw)
      | exact ⟨hw.1, hw.2.1, callG_mono hN (fun v h' q => hN _ _ _ _ _ _ _ _ _ _ q) (fun e h' q => ⟨q.1, fun z => hN _ _ _ _ _ _ _ _ _ _ (q.2 z)⟩) hw.2.2⟩
      | exact ⟨hw.1, hw.2.1, callG_mono hN (fun v h' q => hN _ _ _ _ _ _ _ _ _ _ q) (fun e h' q => q) hw.2.2⟩
      | exact ⟨hw.1, callG_mono hN (fun v h' q => hN _ _ _ _ _ _ _ _ _ _ q) (fun e h' q => q) hw.2⟩
theorem wpE_mono {G : Nat → Nat} {N N' : mN} (hN : ∀ d k pc ls st h bc bs Q X, N d k pc ls st h bc bs Q X → N' d k pc ls st h bc bs Q X) {d k pc : Nat} {ls : List (Option mV)} {st : List mV} {h : mH} {bc bs : Nat} {Q : mQ} {X : mX} :
    wpE G N d k pc ls st h bc bs Q X → wpE G N' d k pc ls st h bc bs Q X := by
  unfold wpE
  cases mcode k pc with
  | none => exact fun h => h
  | some e => exact wpi_mono hN
theorem wp_fold {G : Nat → Nat} {d k pc : Nat} {ls : List (Option mV)} {st : List mV} {h : mH} {bc bs : Nat} {Q : mQ} {X : mX} (hw : wpE G (wp G) d k pc ls st h bc bs Q X) : wp G d k pc ls st h bc bs Q X :=
  fun P hP => hP _ _ _ _ _ _ _ _ _ _ (wpE_mono (fun _ _ _ _ _ _ _ _ _ _ hx => hx P hP) hw)
theorem wp_unfold {G : Nat → Nat} {d k pc : Nat} {ls : List (Option mV)} {st : List mV} {h : mH} {bc bs : Nat} {Q : mQ} {X : mX} (hw : wp G d k pc ls st h bc bs Q X) : wpE G (wp G) d k pc ls st h bc bs Q X :=
  hw (wpE G (wp G)) (fun _ _ _ _ _ _ _ _ _ _ hx => wpE_mono (fun _ _ _ _ _ _ _ _ _ _ hy => wp_fold hy) hx)
theorem wp_hd {G : Nat → Nat} {d k pc : Nat} {ls : List (Option mV)} {st : List mV} {h : mH} {bc bs : Nat} {Q : mQ} {X : mX} : wp G d k pc ls st h bc bs Q X = wpE G (wp G) d k pc ls st h bc bs Q X := propext ⟨wp_unfold, wp_fold⟩
/-- a step, but not at the head of a loop -/
theorem wp_eq {G : Nat → Nat} {d k pc : Nat} {ls : List (Option mV)} {st : List mV} {h : mH} {bc bs : Nat} {Q : mQ} {X : mX} (_ : pc < 100000) : wp G d k pc ls st h bc bs Q X = wpE G (wp G) d k pc ls st h bc bs Q X := wp_hd
theorem callG_use {G : Nat → Nat} {d kk mc ms mx : Nat} {args : List mV} {h : mH} {C : mQ} {X : mX} {Qc : mQ} {Xc : mX} (hs : wp G (d - 1) kk 0 (entL mx args) [] h mc ms Qc Xc) (hC : ∀ v h', Qc v h' → C v h') (hX : ∀ e h', Xc e h' → X e h') :
    callG (wp G) d kk mc ms mx args h C X := ⟨Qc, Xc, hs, hC, hX⟩
