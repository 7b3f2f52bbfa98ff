/-! THE FRAME RULE of the small machine: cells that it has no kind for stay as they are -/
def cmb (P : Nat → Bool) (f h : mH) : mH := (h.1, fun a => if P a = true then f.2.1 a else h.2.1 a, fun a j => if P a = true then f.2.2.1 a j else h.2.2.1 a j, fun a j => if P a = true then f.2.2.2.1 a j else h.2.2.2.1 a j, fun a j => if P a = true then f.2.2.2.2 a j else h.2.2.2.2 a j)
def sepP (P : Nat → Bool) (h : mH) : Prop := ∀ a, P a = true → a < hsz h ∧ hty h a = none
theorem cm_sz {P : Nat → Bool} {f h : mH} : hsz (cmb P f h) = hsz h := rfl
theorem cm_ty {P : Nat → Bool} {f h : mH} {a : Nat} : hty (cmb P f h) a = if P a = true then hty f a else hty h a := rfl
theorem cm_vi {P : Nat → Bool} {f h : mH} {a j : Nat} : hvi (cmb P f h) a j = if P a = true then hvi f a j else hvi h a j := rfl
theorem cm_vr {P : Nat → Bool} {f h : mH} {a j : Nat} : hvr (cmb P f h) a j = if P a = true then hvr f a j else hvr h a j := rfl
theorem cm_vl {P : Nat → Bool} {f h : mH} {a j : Nat} : hvl (cmb P f h) a j = if P a = true then hvl f a j else hvl h a j := rfl
theorem sep_f {P : Nat → Bool} {h : mH} {a t n : Nat} (hs : sepP P h) (ht : hty h a = some (t, n)) : ¬ P a = true := fun q => by rw [(hs a q).2] at ht; cases ht
theorem hx_ext {h h' : mH} (h1 : hsz h = hsz h') (h2 : ∀ a, hty h a = hty h' a) (h3 : ∀ a j, hvi h a j = hvi h' a j) (h4 : ∀ a j, hvr h a j = hvr h' a j) (h5 : ∀ a j, hvl h a j = hvl h' a j) : h = h' := by
  obtain ⟨a1, a2, a3, a4, a5⟩ := h
  obtain ⟨b1, b2, b3, b4, b5⟩ := h'
  have e1 : a1 = b1 := h1
  have e2 : a2 = b2 := funext h2
  have e3 : a3 = b3 := funext fun a => funext fun j => h3 a j
  have e4 : a4 = b4 := funext fun a => funext fun j => h4 a j
  have e5 : a5 = b5 := funext fun a => funext fun j => h5 a j
  rw [e1, e2, e3, e4, e5]
theorem cm_setI {P : Nat → Bool} {f h : mH} {a j : Nat} {v : Int} (hp : ¬ P a = true) : hsetI (cmb P f h) a j v = cmb P f (hsetI h a j v) := by
  refine hx_ext rfl (fun b => rfl) (fun b i => ?_) (fun b i => rfl) (fun b i => rfl)
  rw [hvi_I, cm_vi, cm_vi, hvi_I]
  by_cases hb : b = a ∧ i = j
  · rw [if_pos hb, if_neg (by rw [hb.1]; exact hp), if_pos hb]
  · rw [if_neg hb, if_neg hb]
theorem cm_setR {P : Nat → Bool} {f h : mH} {a j : Nat} {v : Option Nat} (hp : ¬ P a = true) : hsetR (cmb P f h) a j v = cmb P f (hsetR h a j v) := by
  refine hx_ext rfl (fun b => rfl) (fun b i => rfl) (fun b i => ?_) (fun b i => rfl)
  rw [hvr_R, cm_vr, cm_vr, hvr_R]
  by_cases hb : b = a ∧ i = j
  · rw [if_pos hb, if_neg (by rw [hb.1]; exact hp), if_pos hb]
  · rw [if_neg hb, if_neg hb]
theorem cm_setL {P : Nat → Bool} {f h : mH} {a j : Nat} {v : Int} (hp : ¬ P a = true) : hsetL (cmb P f h) a j v = cmb P f (hsetL h a j v) := by
  refine hx_ext rfl (fun b => rfl) (fun b i => rfl) (fun b i => rfl) (fun b i => ?_)
  rw [hvl_L, cm_vl, cm_vl, hvl_L]
  by_cases hb : b = a ∧ i = j
  · rw [if_pos hb, if_neg (by rw [hb.1]; exact hp), if_pos hb]
  · rw [if_neg hb, if_neg hb]
theorem cm_cpy {P : Nat → Bool} {f h : mH} {a i b j n : Nat} (ha : ¬ P a = true) (hb : ¬ P b = true) : hcpy (cmb P f h) a i b j n = cmb P f (hcpy h a i b j n) := by
  refine hx_ext rfl (fun b => rfl) (fun c k => ?_) (fun b i => rfl) (fun b i => rfl)
  rw [hvi_C, cm_vi, cm_vi, cm_vi, hvi_C]
  by_cases hc : c = b ∧ j ≤ k ∧ k < j + n
  · rw [if_pos hc, if_neg ha, if_neg (by rw [hc.1]; exact hb), if_pos hc]
  · rw [if_neg hc, if_neg hc]
theorem cm_push {P : Nat → Bool} {f h : mH} {t n : Nat} (hs : sepP P h) : hpush (cmb P f h) t n = cmb P f (hpush h t n) := by
  have hne : ∀ a, P a = true → a ≠ hsz h := fun a q e => by have := (hs a q).1; omega
  refine hx_ext rfl (fun b => ?_) (fun b i => ?_) (fun b i => ?_) (fun b i => ?_)
  · rw [hty_P, cm_ty, cm_ty, hty_P, cm_sz]
    by_cases hb : P b = true
    · rw [if_neg (hne b hb), if_pos hb, if_pos hb]
    · rw [if_neg hb, if_neg hb]
  · rw [hvi_P, cm_vi, cm_vi, hvi_P, cm_sz]
    by_cases hb : P b = true
    · rw [if_neg (hne b hb), if_pos hb, if_pos hb]
    · rw [if_neg hb, if_neg hb]
  · rw [hvr_P, cm_vr, cm_vr, hvr_P, cm_sz]
    by_cases hb : P b = true
    · rw [if_neg (hne b hb), if_pos hb, if_pos hb]
    · rw [if_neg hb, if_neg hb]
  · rw [hvl_P, cm_vl, cm_vl, hvl_P, cm_sz]
    by_cases hb : P b = true
    · rw [if_neg (hne b hb), if_pos hb, if_pos hb]
    · rw [if_neg hb, if_neg hb]
theorem cm_grow {P : Nat → Bool} {f h : mH} {z : Nat} : hgrow (cmb P f h) z = cmb P f (hgrow h z) := rfl
theorem sp_I {P : Nat → Bool} {h : mH} {a j : Nat} {v : Int} (hs : sepP P h) : sepP P (hsetI h a j v) := hs
theorem sp_R {P : Nat → Bool} {h : mH} {a j : Nat} {v : Option Nat} (hs : sepP P h) : sepP P (hsetR h a j v) := hs
theorem sp_L {P : Nat → Bool} {h : mH} {a j : Nat} {v : Int} (hs : sepP P h) : sepP P (hsetL h a j v) := hs
theorem sp_C {P : Nat → Bool} {h : mH} {a i b j n : Nat} (hs : sepP P h) : sepP P (hcpy h a i b j n) := hs
theorem sp_P {P : Nat → Bool} {h : mH} {t n : Nat} (hs : sepP P h) : sepP P (hpush h t n) := fun a q => by
  have h1 := hs a q
  refine ⟨by rw [hsz_P]; omega, ?_⟩
  rw [hty_P, if_neg (by omega)]
  exact h1.2
theorem sp_G {P : Nat → Bool} {h : mH} {z : Nat} (hs : sepP P h) (hz : hsz h ≤ z) : sepP P (hgrow h z) := fun a q => ⟨by have := (hs a q).1; rw [hsz_G]; omega, (hs a q).2⟩
def frQ (P : Nat → Bool) (f : mH) (Q : mQ) : mQ := fun v h' => ∃ h1, h' = cmb P f h1 ∧ sepP P h1 ∧ Q v h1
def frX (P : Nat → Bool) (f : mH) (X : mX) : mX := fun e h' => ∃ h1, h' = cmb P f h1 ∧ sepP P h1 ∧ X e h1
def frN (G : Nat → Nat) (P : Nat → Bool) (f : mH) : mN := fun d k pc ls st h bc bs Q X => sepP P h → wp G d k pc ls st (cmb P f h) bc bs (frQ P f Q) (frX P f X)
theorem cm_call {G : Nat → Nat} {P : Nat → Bool} {f : mH} {d kk mc ms mx : Nat} {args : List mV} {h : mH} {C C' : mQ} {X X' : mX} (hs : sepP P h) (hC : ∀ v h1, sepP P h1 → C v h1 → C' v (cmb P f h1)) (hX : ∀ x h1, sepP P h1 → X x h1 → X' x (cmb P f h1)) (hw : callG (frN G P f) d kk mc ms mx args h C X) : callG (wp G) d kk mc ms mx args (cmb P f h) C' X' := by
  obtain ⟨Qc, Xc, h1, h2, h3⟩ := hw
  refine ⟨frQ P f Qc, frX P f Xc, h1 hs, fun v h' q => ?_, fun x h' q => ?_⟩
  · obtain ⟨h9, rfl, hs9, hq⟩ := q
    exact hC v h9 hs9 (h2 v h9 hq)
  · obtain ⟨h9, rfl, hs9, hq⟩ := q
    exact hX x h9 hs9 (h3 x h9 hq)
theorem cm_rcv {G : Nat → Nat} {P : Nat → Bool} {f h : mH} {rt : Nat} {args : List mV} (hs : sepP P h) (hr : rcv G rt args h) : rcv G rt args (cmb P f h) := by
  unfold rcv at hr ⊢
  split at hr
  · split at hr
    · rename_i h13
      simp only [h13, ↓reduceIte]
      exact hr
    · rename_i h13
      simp only [h13, ↓reduceIte]
      split at hr
      · rename_i t n ht
        rw [cm_ty, if_neg (sep_f hs ht), ht]
        exact hr
      · exact hr.elim
  · exact hr.elim
theorem cm_tyS {P : Nat → Bool} {f h : mH} {a t n : Nat} (hs : sepP P h) (ht : hty h a = some (t, n)) : hty (cmb P f h) a = some (t, n) := by rw [cm_ty, if_neg (sep_f hs ht)]; exact ht
theorem cm_viS {P : Nat → Bool} {f h : mH} {a t n j : Nat} (hs : sepP P h) (ht : hty h a = some (t, n)) : hvi (cmb P f h) a j = hvi h a j := by rw [cm_vi, if_neg (sep_f hs ht)]
theorem cm_vrS {P : Nat → Bool} {f h : mH} {a t n j : Nat} (hs : sepP P h) (ht : hty h a = some (t, n)) : hvr (cmb P f h) a j = hvr h a j := by rw [cm_vr, if_neg (sep_f hs ht)]
theorem cm_vlS {P : Nat → Bool} {f h : mH} {a t n j : Nat} (hs : sepP P h) (ht : hty h a = some (t, n)) : hvl (cmb P f h) a j = hvl h a j := by rw [cm_vl, if_neg (sep_f hs ht)]
set_option maxHeartbeats 4000000 in
set_option maxRecDepth 100000 in
theorem wpi_frame {G : Nat → Nat} {P : Nat → Bool} {f : mH} {e : mE} {d k pc : Nat} {ls : List (Option mV)} {st : List mV} {h : mH} {bc bs : Nat} {Q : mQ} {X : mX} (hw : wpi G (frN G P f) e d k pc ls st h bc bs Q X) (hs : sepP P h) :
    wpi G (wp G) e d k pc ls st (cmb P f h) bc bs (frQ P f Q) (frX P f X) := by
  unfold wpi at hw ⊢
  split at hw <;> (try dsimp only) <;> (try (split at hw)) <;> (try dsimp only) <;> (try (split at hw)) <;> (try dsimp only) <;>
    first
      | exact hw.elim
      | exact hw hs
      | exact ⟨hw.1, hw.2 hs⟩
      | exact ⟨fun q => hw.1 q hs, fun q => hw.2 q hs⟩
      | exact ⟨fun q => hw.1 q hs, swl_mono (fun t q => q hs) _ _ _ hw.2⟩
      | exact fun r => hw r hs
      | (obtain ⟨i9, h9, hw⟩ := hw; exact ⟨i9, h9, hw hs⟩)
      | (obtain ⟨i9, h9, h8, hw⟩ := hw; exact ⟨i9, h9, h8, hw hs⟩)
      | (obtain ⟨i9, h9, hw⟩ := hw; refine ⟨i9, h9, ?_⟩; split at hw <;> exact hw hs)
      | exact ⟨h, rfl, hs, hw⟩
      | exact ⟨hw.1, h, rfl, hs, hw.2⟩
      | (obtain ⟨h9, hw⟩ := hw; rw [cm_viS hs h9]; exact ⟨cm_tyS hs h9, hw hs⟩)
      | (obtain ⟨h9, hw⟩ := hw; rw [cm_vrS hs h9]; exact ⟨cm_tyS hs h9, hw hs⟩)
      | (obtain ⟨h9, hw⟩ := hw; rw [cm_setI (sep_f hs h9)]; exact ⟨cm_tyS hs h9, hw hs⟩)
      | (obtain ⟨h9, h8, hw⟩ := hw; rw [cm_setI (sep_f hs h9)]; exact ⟨cm_tyS hs h9, h8, hw hs⟩)
      | (obtain ⟨h9, hw⟩ := hw; rw [cm_setR (sep_f hs h9)]; exact ⟨cm_tyS hs h9, hw hs⟩)
      | (rename_i ht; rw [cm_tyS hs ht]; exact ⟨hw.1, hw.2 hs⟩)
      | (rename_i hc; rw [if_pos hc]; exact ⟨hw.1, hw.2 hs⟩)
      | (rename_i hc; rw [if_neg hc]; exact ⟨hw.1, hw.2 hs⟩)
      | (rename_i ht; rw [cm_tyS hs ht]; dsimp only; rw [cm_viS hs ht]; exact ⟨hw.1, hw.2.1, hw.2.2 hs⟩)
      | (rename_i ht; rw [cm_tyS hs ht]; dsimp only; rw [cm_vrS hs ht]; exact ⟨hw.1, hw.2.1, hw.2.2 hs⟩)
      | (rename_i ht; rw [cm_tyS hs ht]; dsimp only; rw [cm_vlS hs ht]; exact ⟨hw.1, hw.2.1, hw.2.2 hs⟩)
      | (rename_i ht; rw [cm_tyS hs ht]; dsimp only; rw [cm_setI (sep_f hs ht)]; exact ⟨hw.1, hw.2.1, hw.2.2 hs⟩)
      | (rename_i ht; rw [cm_tyS hs ht]; dsimp only; rw [cm_setI (sep_f hs ht)]; exact ⟨hw.1, hw.2.1, hw.2.2.1, hw.2.2.2 hs⟩)
      | (rename_i ht; rw [cm_tyS hs ht]; dsimp only; rw [cm_setL (sep_f hs ht)]; exact ⟨hw.1, hw.2.1, hw.2.2 hs⟩)
      | (rename_i ht; rw [cm_tyS hs ht]; dsimp only; rw [cm_setR (sep_f hs ht)]; refine ⟨hw.1, hw.2.1, fun b9 hb9 => ?_, hw.2.2.2 hs⟩; obtain ⟨n9, hn9⟩ := hw.2.2.1 b9 hb9; exact ⟨n9, cm_tyS hs hn9⟩)
      | (rename_i ht1 ht2; rw [cm_tyS hs ht1, cm_tyS hs ht2]; dsimp only; rw [cm_cpy (sep_f hs ht1) (sep_f hs ht2)]; exact ⟨hw.1, hw.2.1, hw.2.2.1, hw.2.2.2.1, hw.2.2.2.2 hs⟩)
      | (rw [cm_push hs, cm_sz]; exact ⟨hw.1, hw.2.1, hw.2.2 (sp_P hs)⟩)
      | (rw [cm_push hs, cm_sz]; exact ⟨hw.1, hw.2 (sp_P hs)⟩)
      | (obtain ⟨h9, h8, hw⟩ := hw; exact ⟨h9, h8, fun z hz => ⟨hgrow h z, rfl, sp_G hs hz, hw z hz⟩⟩)
      | exact ⟨hw.1, cm_rcv hs hw.2.1, cm_call hs (fun v h1 s1 q => q s1) (fun e h1 s1 q => ⟨q.1, fun z => q.2 z s1⟩) hw.2.2⟩
      | exact ⟨hw.1, cm_rcv hs hw.2.1, cm_call hs (fun v h1 s1 q => q s1) (fun e h1 s1 q => q) hw.2.2⟩
      | exact ⟨hw.1, cm_call hs (fun v h1 s1 q => q s1) (fun e h1 s1 q => q) hw.2⟩
theorem wp_frame {G : Nat → Nat} {P : Nat → Bool} {f : mH} {d k pc : Nat} {ls : List (Option mV)} {st : List mV} {h : mH} {bc bs : Nat} {Q : mQ} {X : mX} (hw : wp G d k pc ls st h bc bs Q X) (hs : sepP P h) :
    wp G d k pc ls st (cmb P f h) bc bs (frQ P f Q) (frX P f X) := by
  refine hw (frN G P f) (fun d k pc ls st h bc bs Q X hx => ?_) hs
  intro hs
  refine wp_fold ?_
  unfold wpE at hx ⊢
  cases hm : mcode k pc with
  | none => rw [hm] at hx; exact hx.elim
  | some e => rw [hm] at hx; exact wpi_frame hx hs
