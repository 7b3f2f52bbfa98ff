/-! THE CLASS ASKS a node -/
abbrev aS : Type := Bool × List Int × Nat × Bool
def prt (P : List Int) (s : aS) : aS := if s.2.2.2 = true then s else if s.2.1.length + P.length + 1 ≤ 1500 then (s.1, s.2.1 ++ P ++ [10], s.2.2.1 + 1, false) else (s.1, s.2.1, s.2.2.1, true)
def tD (T : aT) (n : Nat) : Int := ((T n).map nD).getD 0
def dyW (T : aT) (here : Nat) (L : List Int) (k : Nat) : Int := tD T (nwR T here L k true).1.toNat
def tsF (L : List Int) (T : aT) (here : Nat) (pr : Int) (v : aN) (w P : List Int) (t : aK) (s : aS) : Bool × aS :=
  if t.1 = 6 then (glM L t.2.1 w, s) else if t.1 = 7 then (nK v == t.2.2.1, s) else if t.1 = 8 then (cmpS t.2.2.2 (nZ v) t.2.2.1, s)
  else if t.1 = 9 then (cmpS t.2.2.2 (pr - nD v) t.2.2.1, s) else if t.1 = 10 then (cmpS t.2.2.2 (nT v) t.2.2.1, s)
  else if t.1 = 11 then (decide (dyW T here L t.2.1 < nD v), s) else if t.1 = 12 then (true, (true, s.2))
  else if t.1 = 13 then (true, prt P s) else (true, s)
def askM (F : aK → aS → Bool × aS) (K : List aK) (P : List Int) (s : aS) : aS := if K.any (fun t => t.1 == 13) = true then (evB F (rtK K) s).2 else if (evB F (rtK K) s).1 = true then prt P (evB F (rtK K) s).2 else (evB F (rtK K) s).2
def SF (c a : Nat) : Prop := c + 12 ≤ a ∧ a ≤ c + 26
theorem SF_frn {c : Nat} {h : mH} (H : CF c h) : ∀ x, SF c x → frn (hty h x) := by
  intro x hx
  have key : ∀ i, i < 27 → 12 ≤ i → cTy.any (fun p => decide (p.1 = i ∧ ¬ p.2 = (5, 10) ∧ ¬ p.2 = (0, 2) ∧ ¬ p.2 = (7, 3) ∧ ¬ p.2 = (24, 48) ∧ ¬ p.2.1 = 25 ∧ (p.2.1 = 21 → 40 < p.2.2))) = true := by decide
  unfold SF at hx
  obtain ⟨p, hp, hq⟩ := List.any_eq_true.mp (key (x - c) (by omega) (by omega))
  obtain ⟨e, k1, k2, k3, k4, k5, k6⟩ := of_decide_eq_true hq
  have h1 := H.1 p hp
  rw [show x = c + p.1 by omega, h1]
  refine ⟨fun q => ?_, fun q => ?_, fun q => ?_, fun q => ?_, fun n q => ?_, fun n hn q => ?_⟩
  · injection q with q; exact k1 q
  · injection q with q; exact k2 q
  · injection q with q; exact k3 q
  · injection q with q; exact k4 q
  · injection q with q; rw [q] at k5; exact k5 rfl
  · injection q with q; rw [q] at k6; have := k6 rfl; simp at this; omega
theorem ex_I {S : Nat → Prop} {h h' : mH} (q : chI S h h') : ex S h h' := ⟨by rw [q.1]; exact Nat.le_refl _, fun a _ => ⟨q.2.1 a, fun n j => ⟨q.2.2.1 a j, q.2.2.2.2 a j n⟩⟩⟩
theorem CS_chI {c : Nat} {h h' : mH} {L : List Int} {T : aT} {here : Nat} {O O' : List Int} {cp cp' bad : Int} (H : CS c h L T here O cp bad) (q : chI (SF c) h h') (hp : PG (c + 12) h' O') (hc : hvi h' (c + 19) 8 = cp') : CS c h' L T here O' cp' bad := by
  obtain ⟨h1, h2, h3, h4, h5, h6, h7, h8, h9, h10⟩ := H
  have hf := SF_frn h1
  have nS : ∀ a, ¬ (c + 12 ≤ a ∧ a ≤ c + 26) → ¬ SF c a := fun a z => z
  refine ⟨CF_chI q h1, LI_cI q (nS _ (by omega)) (nS _ (by omega)) (nS _ (by omega)) (nS _ (by omega)) h2, TR_ex (ex_I q) hf h3, ⟨by rw [q.2.1]; exact h4.1, by rw [q.2.2.1]; exact h4.2.1, by rw [q.2.2.1]; exact h4.2.2.1, by rw [q.2.1]; exact h4.2.2.2⟩, TI_ex (ex_I q) hf h3 h5, hp, hc, by rw [q.2.2.2.2 _ _ (nS _ (by omega))]; exact h8, fun a ha => by rw [q.2.1]; exact h9 a (by rw [q.1] at ha; exact ha), h10⟩
def FA (c : Nat) (h : mH) (L : List Int) (T : aT) (here : Nat) (K : List aK) (pr : Int) (s : aS) (cp bad : Int) : Prop := CS c h L T here s.2.1 cp bad ∧ EP (c + 14) h K ∧ (∀ i t, K[i]? = some t → t.1 = 11 → hvi h (c + 17) i = dyW T here L t.2.1) ∧ (hvi h (c + 19) 6 = pr ∧ hvi h (c + 19) 7 = (s.2.2.1 : Int) ∧ hvi h (c + 19) 9 = b01 s.1 ∧ hvi h (c + 19) 10 = b01 s.2.2.2) ∧ s.2.2.1 ≤ s.2.1.length
def SA (c a : Nat) : Prop := a = c + 12 ∨ a = c + 13 ∨ (c + 19 ≤ a ∧ a ≤ c + 26)
theorem SA_SF {c a : Nat} (h : SA c a) : SF c a := by unfold SA at h; unfold SF; omega
theorem FA_ch {c : Nat} {h h' : mH} {L : List Int} {T : aT} {here : Nat} {K : List aK} {pr : Int} {s s' : aS} {cp cp' bad : Int} (H : FA c h L T here K pr s cp bad) (q : chI (SA c) h h') (hp : PG (c + 12) h' s'.2.1) (h6 : hvi h' (c + 19) 6 = pr) (h7 : hvi h' (c + 19) 7 = (s'.2.2.1 : Int)) (h8 : hvi h' (c + 19) 8 = cp') (h9 : hvi h' (c + 19) 9 = b01 s'.1) (h10 : hvi h' (c + 19) 10 = b01 s'.2.2.2) (hl : s'.2.2.1 ≤ s'.2.1.length) : FA c h' L T here K pr s' cp' bad := by
  obtain ⟨f1, f2, f3, f4, f5⟩ := H
  obtain ⟨g1, g2, g3, g4, g5⟩ := f2
  have nS : ∀ a, ¬ (a = c + 12 ∨ a = c + 13 ∨ (c + 19 ≤ a ∧ a ≤ c + 26)) → ∀ j, hvi h' a j = hvi h a j := fun a z j => q.2.2.2.2 a j z
  refine ⟨CS_chI f1 (chI_mono (fun a => SA_SF) q) hp h8, ⟨g1, by rw [nS _ (by omega)]; exact g2, by rw [nS _ (by omega)]; exact g3, by rw [nS _ (by omega)]; exact g4, fun i t hi => ?_⟩, fun i t hi ht => by rw [nS _ (by omega)]; exact f3 i t hi ht, ⟨h6, h7, h9, h10⟩, hl⟩
  obtain ⟨k1, k2, k3, k4⟩ := g5 i t hi
  exact ⟨by rw [nS _ (by omega)]; exact k1, fun z => by rw [nS _ (by omega)]; exact k2 z, fun z => by rw [nS _ (by omega)]; exact k3 z, fun z => by rw [nS _ (by omega)]; exact k4 z⟩
def SI (c a : Nat) : Prop := a = c + 12 ∨ a = c + 13 ∨ a = c + 19 ∨ a = c + 26
theorem SI_SA {c a : Nat} (h : SI c a) : SA c a := by unfold SI at h; unfold SA; omega
theorem PG_chI {S : Nat → Prop} {g : Nat} {h h' : mH} {O : List Int} (q : chI S h h') (n0 : ¬ S g) (n1 : ¬ S (g + 1)) (H : PG g h O) : PG g h' O := by
  obtain ⟨p1, p2, p3, p4, p5, p6⟩ := H
  exact ⟨by rw [q.2.1]; exact p1, by rw [q.2.1]; exact p2, by rw [q.2.2.2.2 _ _ n0]; exact p3, p4, fun i hi => by rw [q.2.2.2.2 _ _ n1]; exact p5 i hi, p6⟩
theorem PG_set {g a i : Nat} {h : mH} {O : List Int} {z : Int} (n0 : ¬ a = g) (n1 : ¬ a = g + 1) (H : PG g h O) : PG g (hsetI h a i z) O := PG_chI (S := fun x => x = a) (chI_set rfl) (fun q => n0 q.symm) (fun q => n1 q.symm) H
theorem f_print {G : Nat → Nat} {d c here : Nat} {h : mH} {C : mQ} {X : mX} {L : List Int} {T : aT} {K : List aK} {pr : Int} {s : aS} {cp bad : Int} {P : List Int} (hd : 2 ≤ d) (H : FA c h L T here K pr s cp bad) (hP : ro h (c + 25) 0 P) (bP : bd P) (hl : P.length ≤ 820) (hN : hvi h (c + 19) 13 = (P.length : Int))
    (hC : ∀ h', chI (SI c) h h' → FA c h' L T here K pr (prt P s) cp bad → (∀ j, 11 ≤ j → hvi h' (c + 19) j = hvi h (c + 19) j) → C none h') :
    callG (wp G) d 19 0 0 1 [.inr (.inl (some (c + 19)))] h C X := by
  have HH := H
  obtain ⟨f1, f2, f3, ⟨k6, k7, k9, k10⟩, f5⟩ := HH
  have hcp := f1.2.2.2.2.2.2.1
  have HF := f1.1
  have hp := f1.2.2.2.2.2.1
  have x1 : hty h (c + 19) = some (2, 14) := HF.1 (19, 2, 14) (by decide)
  have x2 : hvr h (c + 19) 2 = some (c + 12) := HF.2 (19, 2, 12) (by decide)
  have x3 : hty h (c + 12) = some (6, 3) := HF.1 (12, 6, 3) (by decide)
  have x4 : hvr h (c + 19) 5 = some (c + 25) := HF.2 (19, 5, 25) (by decide)
  have x5 : hty h (c + 25) = some (21, 820) := HF.1 (25, 21, 820) (by decide)
  have x6 : hvr h (c + 12) 0 = some (c + 12 + 1) := HF.2 (12, 0, 13) (by decide)
  unfold prt at hC
  refine cg 1 (by omega) (fun d hd => ?_)
  have hd0 : (0 < d) = True := eq_true (by omega)
  by_cases hfull : s.2.2.2 = true
  · rw [if_pos hfull] at hC
    have hz := hC h chI_refl H (fun _ _ => rfl)
    rw [hfull] at k10
    simp [b01] at k10
    (repeat' (first | with_reducible assumption | (refine And.intro ?_ ?_) | (with_reducible intro _) | (simp [wp_eq, wpE, mk_X2_printPath, mg, mc_X2_printPath, lget, lset, popN, cats, rcv, entL, isArr, kC_s, kC_n, st1, st2, st3, st4, st5, st6, st7, st8, st9, st10, st11, st12, st13, st14, st15, st16, st17, st18, st19, st20, st21, st22, st23, st24, st25, st26, st27, st28, st29, st30, st31, st32, st33, st34, st35, st36, st37, st38, st39, st40, st41, st42, st43, st44, st45, st46, st47, st48, st49, st50, st51, st52, st53, st54, st55, st56, st57, st58, st59, st60, st61, st62, st63, st64, st65, st66, st67, st68, st69, st70, st71, st72, st73, st74, st75, st76, st77, st78, st79, st80, st81, st82, st83, st84, st85, st86, st87, st88, st89, st90, st91, x1, k10]))) <;> (try (first | omega | exact hz))
  · rw [if_neg hfull] at hC
    have hfl : s.2.2.2 = false := by cases q : s.2.2.2 with
      | false => rfl
      | true => exact absurd q hfull
    rw [hfl] at k10
    simp [b01] at k10
    by_cases hr : s.2.1.length + P.length + 1 ≤ 1500
    · rw [if_pos hr] at hC
      have hwl : ∀ {C : mQ} {X : mX}, (∀ h', chI (fun x => x = c + 12 ∨ x = c + 12 + 1) h h' → PG (c + 12) h' (s.2.1 ++ P ++ [10]) → C (some (.inl 1)) h') → callG (wp G) d 43 0 0 3 [.inr (.inl (some (c + 12))), .inr (.inl (some (c + 25))), .inl (P.length : Int)] h C X := fun {C X} z => c_writeLine (N := 820) hp x6 x5 (by omega) hl (by omega) hP bP (fun q => absurd hr q) (fun _ => z)
      have hfin : ∀ h', chI (fun x => x = c + 12 ∨ x = c + 12 + 1) h h' → PG (c + 12) h' (s.2.1 ++ P ++ [10]) → hty h' (c + 19) = some (2, 14) ∧ hvi h' (c + 19) 7 = (s.2.2.1 : Int) ∧ C none (hsetI h' (c + 19) 7 ((s.2.2.1 : Int) + 1)) := by
        intro h' q1 q2
        have nn : ∀ j, hvi h' (c + 19) j = hvi h (c + 19) j := fun j => q1.2.2.2.2 _ _ (by omega)
        refine ⟨by rw [q1.2.1]; exact x1, by rw [nn]; exact k7, ?_⟩
        have q3 : chI (SI c) h (hsetI h' (c + 19) 7 ((s.2.2.1 : Int) + 1)) := chI_trans (chI_mono (fun a z => by unfold SI; omega) q1) (chI_set (by unfold SI; omega))
        refine hC _ q3 (FA_ch H (chI_mono (fun a => SI_SA) q3) (PG_set (by omega) (by omega) q2) ?_ ?_ ?_ ?_ ?_ ?_) (fun j hj => ?_)
        · rw [hvi_I, if_neg (by omega), nn]; exact k6
        · rw [hvi_I, if_pos (by omega)]; simp
        · rw [hvi_I, if_neg (by omega), nn]; exact hcp
        · rw [hvi_I, if_neg (by omega), nn]; exact k9
        · rw [hvi_I, if_neg (by omega), nn, k10]; simp [b01]
        · simp; omega
        · rw [hvi_I, if_neg (by omega), nn]
      have hs : s.2.2.1 ≤ 1500 := by have := hp.2.2.2.1; omega
      simp [wp_eq, wpE, mk_X2_printPath, mg, mc_X2_printPath, lget, lset, popN, cats, rcv, entL, isArr, kC_s, kC_n, st1, st2, st3, st4, st5, st6, st7, st8, st9, st10, st11, st12, st13, st14, st15, st16, st17, st18, st19, st20, st21, st22, st23, st24, st25, st26, st27, st28, st29, st30, st31, st32, st33, st34, st35, st36, st37, st38, st39, st40, st41, st42, st43, st44, st45, st46, st47, st48, st49, st50, st51, st52, st53, st54, st55, st56, st57, st58, st59, st60, st61, st62, st63, st64, st65, st66, st67, st68, st69, st70, st71, st72, st73, st74, st75, st76, st77, st78, st79, st80, st81, st82, st83, st84, st85, st86, st87, st88, st89, st90, st91, x1, x2, x3, x4, x5, k10, hN, hd0]
      refine hwl (fun zzh zz1 zz2 => ?_)
      obtain ⟨y1, y2, hz⟩ := hfin zzh zz1 zz2
      (repeat' (first | with_reducible assumption | (refine And.intro ?_ ?_) | (with_reducible intro _) | (simp [wp_eq, wpE, mk_X2_printPath, mg, mc_X2_printPath, lget, lset, popN, cats, rcv, entL, isArr, kC_s, kC_n, st1, st2, st3, st4, st5, st6, st7, st8, st9, st10, st11, st12, st13, st14, st15, st16, st17, st18, st19, st20, st21, st22, st23, st24, st25, st26, st27, st28, st29, st30, st31, st32, st33, st34, st35, st36, st37, st38, st39, st40, st41, st42, st43, st44, st45, st46, st47, st48, st49, st50, st51, st52, st53, st54, st55, st56, st57, st58, st59, st60, st61, st62, st63, st64, st65, st66, st67, st68, st69, st70, st71, st72, st73, st74, st75, st76, st77, st78, st79, st80, st81, st82, st83, st84, st85, st86, st87, st88, st89, st90, st91, y1, y2, inR]))) <;> (try (first | omega | exact hz))
    · rw [if_neg hr] at hC
      have hwl : ∀ {C : mQ} {X : mX}, C (some (.inl 0)) h → callG (wp G) d 43 0 0 3 [.inr (.inl (some (c + 12))), .inr (.inl (some (c + 25))), .inl (P.length : Int)] h C X := fun {C X} z => c_writeLine (N := 820) hp x6 x5 (by omega) hl (by omega) hP bP (fun q => z) (fun q => absurd q hr)
      have q3 : chI (SI c) h (hsetI h (c + 19) 10 1) := chI_set (by unfold SI; omega)
      have hz := hC _ q3 (FA_ch H (chI_mono (fun a => SI_SA) q3) (PG_set (by omega) (by omega) hp) (by rw [hvi_I, if_neg (by omega)]; exact k6) (by rw [hvi_I, if_neg (by omega)]; exact k7) (by rw [hvi_I, if_neg (by omega)]; exact hcp) (by rw [hvi_I, if_neg (by omega)]; exact k9) (by rw [hvi_I, if_pos (by omega)]; simp [b01]) f5) (fun j hj => by rw [hvi_I, if_neg (by omega)])
      simp [wp_eq, wpE, mk_X2_printPath, mg, mc_X2_printPath, lget, lset, popN, cats, rcv, entL, isArr, kC_s, kC_n, st1, st2, st3, st4, st5, st6, st7, st8, st9, st10, st11, st12, st13, st14, st15, st16, st17, st18, st19, st20, st21, st22, st23, st24, st25, st26, st27, st28, st29, st30, st31, st32, st33, st34, st35, st36, st37, st38, st39, st40, st41, st42, st43, st44, st45, st46, st47, st48, st49, st50, st51, st52, st53, st54, st55, st56, st57, st58, st59, st60, st61, st62, st63, st64, st65, st66, st67, st68, st69, st70, st71, st72, st73, st74, st75, st76, st77, st78, st79, st80, st81, st82, st83, st84, st85, st86, st87, st88, st89, st90, st91, x1, x2, x3, x4, x5, k10, hN, hd0]
      refine hwl ?_
      (repeat' (first | with_reducible assumption | (refine And.intro ?_ ?_) | (with_reducible intro _) | (simp [wp_eq, wpE, mk_X2_printPath, mg, mc_X2_printPath, lget, lset, popN, cats, rcv, entL, isArr, kC_s, kC_n, st1, st2, st3, st4, st5, st6, st7, st8, st9, st10, st11, st12, st13, st14, st15, st16, st17, st18, st19, st20, st21, st22, st23, st24, st25, st26, st27, st28, st29, st30, st31, st32, st33, st34, st35, st36, st37, st38, st39, st40, st41, st42, st43, st44, st45, st46, st47, st48, st49, st50, st51, st52, st53, st54, st55, st56, st57, st58, st59, st60, st61, st62, st63, st64, st65, st66, st67, st68, st69, st70, st71, st72, st73, st74, st75, st76, st77, st78, st79, st80, st81, st82, st83, st84, st85, st86, st87, st88, st89, st90, st91, x1]))) <;> (try (first | omega | exact hz))
