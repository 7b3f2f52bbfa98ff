/-! WITHOUT ROOM nothing new is made -/
def sam (h0 h : mH) : Prop := hsz h = hsz h0 ∧ ∀ a, hty h a = hty h0 a
def kN (G : Nat → Nat) : mN := fun d k pc ls st h bc bs Q X => ∀ h0, bc = 0 → sam h0 h → wp G d k pc ls st h bc bs (fun v h' => Q v h' ∧ sam h0 h') (fun e h' => X e h' ∧ sam h0 h')
theorem k_call {G : Nat → Nat} {d kk mc ms mx : Nat} {args : List mV} {h0 h : mH} {C C' : mQ} {X X' : mX} (hm : mc = 0) (hs : sam h0 h) (hC : ∀ v h1, sam h0 h1 → C v h1 → C' v h1) (hX : ∀ x h1, sam h0 h1 → X x h1 → X' x h1) (hw : callG (kN G) d kk mc ms mx args h C X) : callG (wp G) d kk mc ms mx args h C' X' := by
  obtain ⟨Qc, Xc, h1, h2, h3⟩ := hw
  exact ⟨_, _, h1 h0 hm hs, fun v h' q => hC v h' q.2 (h2 v h' q.1), fun x h' q => hX x h' q.2 (h3 x h' q.1)⟩
set_option maxHeartbeats 4000000 in
set_option maxRecDepth 100000 in
theorem wpi_keep {G : Nat → Nat} {e : mE} {d k pc : Nat} {ls : List (Option mV)} {st : List mV} {h h0 : mH} {bc bs : Nat} {Q : mQ} {X : mX} (hw : wpi G (kN G) e d k pc ls st h bc bs Q X) (hb : bc = 0) (hs : sam h0 h) :
    wpi G (wp G) e d k pc ls st h bc bs (fun v h' => Q v h' ∧ sam h0 h') (fun e h' => X e h' ∧ sam h0 h') := by
  unfold wpi at hw ⊢
  split at hw <;> (try dsimp only) <;> (try (split at hw)) <;> (try dsimp only) <;> (try (split at hw)) <;> (try dsimp only) <;>
    first
      | exact hw.elim
      | exact hw h0 hb hs
      | exact ⟨hw.1, hw.2 h0 hb hs⟩
      | exact ⟨fun q => hw.1 q h0 hb hs, fun q => hw.2 q h0 hb hs⟩
      | exact ⟨fun q => hw.1 q h0 hb hs, swl_mono (fun t q => q h0 hb hs) _ _ _ hw.2⟩
      | exact fun r => hw r h0 hb hs
      | (obtain ⟨i9, h9, hw⟩ := hw; exact ⟨i9, h9, hw h0 hb hs⟩)
      | (obtain ⟨i9, h9, h8, hw⟩ := hw; exact ⟨i9, h9, h8, hw h0 hb hs⟩)
      | (obtain ⟨i9, h9, h8, h7, hw⟩ := hw; exact ⟨i9, h9, h8, h7, hw h0 hb hs⟩)
      | (obtain ⟨i9, h9, hw⟩ := hw; refine ⟨i9, h9, ?_⟩; split at hw <;> exact hw h0 hb hs)
      | exact ⟨hw, hs⟩
      | exact ⟨hw.1, hw.2, hs⟩
      | (rename_i ht; rw [ht]; exact ⟨hw.1, hw.2 h0 hb hs⟩)
      | (rename_i hc; rw [if_pos hc]; exact ⟨hw.1, hw.2 h0 hb hs⟩)
      | (rename_i hc; rw [if_neg hc]; exact ⟨hw.1, hw.2 h0 hb hs⟩)
      | (rename_i ht; rw [ht]; dsimp only; exact ⟨hw.1, hw.2.1, hw.2.2 h0 hb hs⟩)
      | (rename_i ht; rw [ht]; dsimp only; exact ⟨hw.1, hw.2.1, hw.2.2.1, hw.2.2.2 h0 hb hs⟩)
      | (rename_i ht1 ht2; rw [ht1, ht2]; dsimp only; exact ⟨hw.1, hw.2.1, hw.2.2.1, hw.2.2.2.1, hw.2.2.2.2 h0 hb hs⟩)
      | (exfalso; have h9 := hw.1.1; omega)
      | (exfalso; have h9 := hw.2.1.1; omega)
      | exact ⟨hw.1, hw.2.1, k_call (by omega) hs (fun v h1 s1 q => q h0 (by omega) s1) (fun e h1 s1 q => ⟨q.1, fun z => q.2 z h0 (by omega) s1⟩) hw.2.2⟩
      | exact ⟨hw.1, hw.2.1, k_call (by omega) hs (fun v h1 s1 q => q h0 (by omega) s1) (fun e h1 s1 q => q) hw.2.2⟩
      | exact ⟨hw.1, k_call (by omega) hs (fun v h1 s1 q => q h0 (by omega) s1) (fun e h1 s1 q => q) hw.2⟩
theorem wp_keep {G : Nat → Nat} {d k pc : Nat} {ls : List (Option mV)} {st : List mV} {h : mH} {bs : Nat} {Q : mQ} {X : mX} (hw : wp G d k pc ls st h 0 bs Q X) : wp G d k pc ls st h 0 bs (fun v h' => Q v h' ∧ sam h h') (fun e h' => X e h' ∧ sam h h') := by
  refine hw (kN G) (fun d k pc ls st h bc bs Q X hx => ?_) h rfl ⟨rfl, fun _ => rfl⟩
  intro h0 hb hs
  refine wp_fold ?_
  unfold wpE at hx ⊢
  cases hm : mcode k pc with
  | none => rw [hm] at hx; exact hx.elim
  | some e => rw [hm] at hx; exact wpi_keep hx hb hs
/-- a call without room beside cells that it has no kind for -/
theorem call_fr {G : Nat → Nat} {d kk mc ms mx : Nat} {args : List mV} {h : mH} {C : mQ} {X : mX} {P : Nat → Bool} {f : mH} (hs : sepP P h) (hw : callG (wp G) d kk mc ms mx args h C X) : callG (wp G) d kk mc ms mx args (cmb P f h) (frQ P f C) (frX P f X) := by
  obtain ⟨Qc, Xc, h1, h2, h3⟩ := hw
  exact ⟨_, _, wp_frame h1 hs, fun v h' ⟨g, e, s, q⟩ => ⟨g, e, s, h2 v g q⟩, fun x h' ⟨g, e, s, q⟩ => ⟨g, e, s, h3 x g q⟩⟩
theorem call_kp {G : Nat → Nat} {d kk ms mx : Nat} {args : List mV} {h : mH} {C : mQ} {X : mX} (hw : callG (wp G) d kk 0 ms mx args h C X) : callG (wp G) d kk 0 ms mx args h (fun v h' => C v h' ∧ sam h h') (fun e h' => X e h' ∧ sam h h') := by
  obtain ⟨Qc, Xc, h1, h2, h3⟩ := hw
  exact ⟨_, _, wp_keep h1, fun v h' q => ⟨h2 v h' q.1, q.2⟩, fun x h' q => ⟨h3 x h' q.1, q.2⟩⟩
