/-! THE REFERENCE: parts, operands, pile -/
def pT (kd fs sc : Nat → Int) : bT → Nat → Prop
  | .sub x y, p => kd p = ((lfD x y).1 : Int) - 6 ∧ (6 ≤ (lfD x y).1 ∧ (lfD x y).1 ≤ 14) ∧ ((lfD x y).1 < 12 → fs p = ((lfD x y).2.1 : Int))
  | .neg x, p => kd p = 9 ∧ ∃ q, q < p ∧ fs p = (q : Int) ∧ pT kd fs sc x q
  | .mul x y, p => kd p = 10 ∧ ∃ q1 q2, q1 < p ∧ q2 < p ∧ fs p = (q1 : Int) ∧ sc p = (q2 : Int) ∧ pT kd fs sc x q1 ∧ pT kd fs sc y q2
  | .add x y, p => kd p = 11 ∧ ∃ q1 q2, q1 < p ∧ q2 < p ∧ fs p = (q1 : Int) ∧ sc p = (q2 : Int) ∧ pT kd fs sc x q1 ∧ pT kd fs sc y q2
  | _, _ => False
theorem pT_mono {kd fs sc kd' fs' sc' : Nat → Int} : ∀ (e : bT) (p : Nat), (∀ i, i ≤ p → kd' i = kd i ∧ fs' i = fs i ∧ sc' i = sc i) → pT kd fs sc e p → pT kd' fs' sc' e p := by
  intro e
  induction e with
  | num v => intro p _ h; exact h
  | natCast v => intro p _ h; exact h
  | intCast v => intro p _ h; exact h
  | var v => intro p _ h; exact h
  | pow x k ih => intro p _ h; exact h
  | neg x ih =>
    intro p hs h
    obtain ⟨h1, q, h2, h3, h4⟩ := h
    have := hs p (Nat.le_refl _)
    exact ⟨by rw [this.1]; exact h1, q, h2, by rw [this.2.1]; exact h3, ih q (fun i hi => hs i (by omega)) h4⟩
  | mul x y ihx ihy =>
    intro p hs h
    obtain ⟨h1, q1, q2, h2, h3, h4, h5, h6, h7⟩ := h
    have := hs p (Nat.le_refl _)
    exact ⟨by rw [this.1]; exact h1, q1, q2, h2, h3, by rw [this.2.1]; exact h4, by rw [this.2.2]; exact h5, ihx q1 (fun i hi => hs i (by omega)) h6, ihy q2 (fun i hi => hs i (by omega)) h7⟩
  | add x y ihx ihy =>
    intro p hs h
    obtain ⟨h1, q1, q2, h2, h3, h4, h5, h6, h7⟩ := h
    have := hs p (Nat.le_refl _)
    exact ⟨by rw [this.1]; exact h1, q1, q2, h2, h3, by rw [this.2.1]; exact h4, by rw [this.2.2]; exact h5, ihx q1 (fun i hi => hs i (by omega)) h6, ihy q2 (fun i hi => hs i (by omega)) h7⟩
  | sub x y ihx ihy =>
    intro p hs h
    obtain ⟨h1, h2, h3⟩ := h
    have := hs p (Nat.le_refl _)
    exact ⟨by rw [this.1]; exact h1, h2, fun z => by rw [this.2.1]; exact h3 z⟩
def PH (r : Nat) (h : mH) (e : bT) (p : Nat) : Prop := pT (hvi h (r + 19)) (hvi h (r + 20)) (hvi h (r + 21)) e p
def OP (r : Nat) (h : mH) (N : Nat) (Q : List bT) : Prop := ∀ i e, Q[i]? = some e → ∃ p, p < N ∧ hvi h (r + 24) i = (p : Int) ∧ PH r h e p
def PIL (r : Nat) (h : mH) (Y : List Nat) : Prop := ∀ (i y : Nat), Y[i]? = some y → hvi h (r + 23) i = (y : Int)
/-- the words behind -newer, as the parts have them -/
def NWl (kd fs : Nat → Int) : Nat → List Int
  | 0 => []
  | N + 1 => NWl kd fs N ++ (if kd N = 5 then [fs N] else [])
theorem NWl_cg {kd fs kd' fs' : Nat → Int} : ∀ N, (∀ i, i < N → kd' i = kd i ∧ fs' i = fs i) → NWl kd' fs' N = NWl kd fs N := by
  intro N
  induction N with
  | zero => intro _; rfl
  | succ N ih =>
    intro h
    have := h N (by omega)
    simp only [NWl]
    rw [ih (fun i hi => h i (by omega)), this.1, this.2]
def NW (r : Nat) (h : mH) (N : Nat) (M : List Int) : Prop := hvi h r 27 = (N : Int) ∧ NWl (hvi h (r + 19)) (hvi h (r + 20)) N = M
def aP (r N : Nat) (h : mH) (k a b : Int) : mH := hsetI (hsetI (hsetI (hsetI h (r + 19) N k) (r + 20) N a) (r + 21) N b) r 27 ((N : Int) + 1)
theorem r_addPart {G : Nat → Nat} {d r N : Nat} {h : mH} {C : mQ} {X : mX} {k a b : Int} (HR : RN r h) (hN : hvi h r 27 = (N : Int)) (hN2 : N < 60) (hC : C (some (.inl (N : Int))) (aP r N h k a b)) :
    callG (wp G) d 126 0 0 4 [.inr (.inl (some r)), .inl k, .inl a, .inl b] h C X := by
  have R0 := HR.1; have R_partKind := rn_partKind HR; have R_first := rn_first HR; have R_second := rn_second HR
  unfold aP at hC
  have hz := hC
  have e1 : (N : Int) + 1 - 1 = (N : Int) := by omega
  refine ⟨C, fun _ _ => False, ?_, fun _ _ q => q, fun _ _ q => q.elim⟩
  (repeat' (first | with_reducible assumption | (refine And.intro ?_ ?_) | (with_reducible intro _) | (simp [wp_eq, wpE, mk_X11_addPart, mg, mc_X11_addPart, lget, lset, popN, cats, rcv, entL, isArr, kC_s, kC_n, st1, st2, st3, st4, st5, st6, st7, st8, st9, st10, st11, st12, st13, st14, st15, st16, st17, st18, st19, st20, st21, st22, st23, st24, st25, st26, st27, st28, st29, st30, st31, st32, st33, st34, st35, st36, st37, st38, st39, st40, st41, st42, st43, st44, st45, st46, st47, st48, st49, st50, st51, st52, st53, st54, st55, st56, st57, st58, st59, st60, st61, st62, st63, st64, st65, st66, st67, st68, st69, st70, st71, st72, st73, st74, st75, st76, st77, st78, st79, st80, st81, st82, st83, st84, st85, st86, st87, st88, st89, st90, st91, R0, R_partKind, R_first, R_second, hN, hty_I, hvi_I, hvr_I, hvl_I, hsz_I, hty_R, hvi_R, hvr_R, hvl_R, hsz_R, hty_L, hvi_L, hvr_L, hvl_L, hsz_L, hty_P, hvi_P, hvr_P, hvl_P, hsz_P, hty_C, hvi_C, hvr_C, hvl_C, hsz_C, e1, inR]))) <;> (try (first | omega | exact hz))
theorem aP_ch {r N : Nat} {h : mH} {k a b : Int} : chJ (sR r [19, 20, 21, 127]) h (aP r N h k a b) := chJ_trans (chJ_trans (chJ_trans (chJ_set (by simp [sR])) (chJ_set (by simp [sR]))) (chJ_set (by simp [sR]))) (chJ_set (by simp [sR]))
theorem aP_v {r N : Nat} {h : mH} {k a b : Int} : hvi (aP r N h k a b) (r + 19) N = k ∧ hvi (aP r N h k a b) (r + 20) N = a ∧ hvi (aP r N h k a b) (r + 21) N = b ∧ hvi (aP r N h k a b) r 27 = (N : Int) + 1 ∧ ∀ x i, ¬ i = N → ¬ (x = r ∧ i = 27) → hvi (aP r N h k a b) x i = hvi h x i := by
  unfold aP
  refine ⟨by simp [hty_I, hvi_I, hvr_I, hvl_I, hsz_I, hty_R, hvi_R, hvr_R, hvl_R, hsz_R, hty_L, hvi_L, hvr_L, hvl_L, hsz_L, hty_P, hvi_P, hvr_P, hvl_P, hsz_P, hty_C, hvi_C, hvr_C, hvl_C, hsz_C], by simp [hty_I, hvi_I, hvr_I, hvl_I, hsz_I, hty_R, hvi_R, hvr_R, hvl_R, hsz_R, hty_L, hvi_L, hvr_L, hvl_L, hsz_L, hty_P, hvi_P, hvr_P, hvl_P, hsz_P, hty_C, hvi_C, hvr_C, hvl_C, hsz_C], by simp [hty_I, hvi_I, hvr_I, hvl_I, hsz_I, hty_R, hvi_R, hvr_R, hvl_R, hsz_R, hty_L, hvi_L, hvr_L, hvl_L, hsz_L, hty_P, hvi_P, hvr_P, hvl_P, hsz_P, hty_C, hvi_C, hvr_C, hvl_C, hsz_C], by simp [hty_I, hvi_I, hvr_I, hvl_I, hsz_I, hty_R, hvi_R, hvr_R, hvl_R, hsz_R, hty_L, hvi_L, hvr_L, hvl_L, hsz_L, hty_P, hvi_P, hvr_P, hvl_P, hsz_P, hty_C, hvi_C, hvr_C, hvl_C, hsz_C], fun x i hi hx => ?_⟩
  rw [hvi_I, if_neg hx, hvi_I, if_neg (fun q => hi q.2), hvi_I, if_neg (fun q => hi q.2), hvi_I, if_neg (fun q => hi q.2)]
theorem PH_aP {r N p : Nat} {h : mH} {k a b : Int} {e : bT} (hp : p < N) (H : PH r h e p) : PH r (aP r N h k a b) e p := by
  obtain ⟨-, -, -, -, h5⟩ := aP_v (r := r) (N := N) (h := h) (k := k) (a := a) (b := b)
  exact pT_mono e p (fun i hi => ⟨h5 _ _ (by omega) (by omega), h5 _ _ (by omega) (by omega), h5 _ _ (by omega) (by omega)⟩) H
theorem NW_aP {r N : Nat} {h : mH} {k a b : Int} {M : List Int} (H : NW r h N M) : NW r (aP r N h k a b) (N + 1) (M ++ (if k = 5 then [a] else [])) := by
  obtain ⟨h1, h2, -, h4, h5⟩ := aP_v (r := r) (N := N) (h := h) (k := k) (a := a) (b := b)
  refine ⟨by rw [h4]; omega, ?_⟩
  simp only [NWl]
  rw [NWl_cg N (fun i hi => ⟨h5 _ _ (by omega) (by omega), h5 _ _ (by omega) (by omega)⟩), H.2, h1, h2]
/-- the last operand gives way to another one, of a new part -/
theorem OP_last {r N m : Nat} {h : mH} {k a b : Int} {Q : List bT} {e : bT} (H : OP r h N Q) (hm : m = Q.length) (he : PH r (aP r N h k a b) e N) : OP r (hsetI (aP r N h k a b) (r + 24) m (N : Int)) (N + 1) (Q ++ [e]) := by
  have pk : ∀ x i, ¬ x = r + 24 → hvi (hsetI (aP r N h k a b) (r + 24) m (N : Int)) x i = hvi (aP r N h k a b) x i := fun x i hx => by rw [hvi_I, if_neg (fun q => hx q.1)]
  have PHk : ∀ e p, PH r (aP r N h k a b) e p → PH r (hsetI (aP r N h k a b) (r + 24) m (N : Int)) e p := fun e p q => pT_mono e p (fun i _ => ⟨pk _ _ (by omega), pk _ _ (by omega), pk _ _ (by omega)⟩) q
  have c24 : ∀ i, hvi (aP r N h k a b) (r + 24) i = hvi h (r + 24) i := fun i => chJ_row aP_ch (by omega) (by simp) i
  intro i e' hi
  by_cases hil : i < Q.length
  · rw [List.getElem?_append_left hil] at hi
    obtain ⟨p, p1, p2, p3⟩ := H i e' hi
    exact ⟨p, by omega, by rw [hvi_I, if_neg (by omega), c24]; exact p2, PHk _ _ (PH_aP p1 p3)⟩
  · rw [List.getElem?_append_right (by omega)] at hi
    have hi0 : i - Q.length = 0 := by
      cases hq : i - Q.length with
      | zero => rfl
      | succ j => rw [hq] at hi; simp at hi
    rw [hi0] at hi
    simp at hi
    subst hi
    exact ⟨N, by omega, by rw [hvi_I, if_pos (by omega)], PHk _ _ he⟩
theorem OP_pre {r N : Nat} {h : mH} {Q Q' : List bT} (H : OP r h N (Q ++ Q')) : OP r h N Q := fun i e hi => H i e (by rw [List.getElem?_append_left (List.getElem?_eq_some_iff.mp hi).1]; exact hi)
theorem OP_ch {r N : Nat} {h h' : mH} {Q : List bT} {l : List Nat} (q : chJ (sR r l) h h') (hl : ∀ c ∈ [19, 20, 21, 24], ¬ c ∈ l) (H : OP r h N Q) : OP r h' N Q := fun i e hi => by
  obtain ⟨p, p1, p2, p3⟩ := H i e hi
  exact ⟨p, p1, by rw [chJ_row q (by omega) (hl _ (by simp))]; exact p2, pT_mono e p (fun i _ => ⟨chJ_row q (by omega) (hl _ (by simp)) i, chJ_row q (by omega) (hl _ (by simp)) i, chJ_row q (by omega) (hl _ (by simp)) i⟩) p3⟩
theorem NW_ch {r N : Nat} {h h' : mH} {M : List Int} {l : List Nat} (q : chJ (sR r l) h h') (hl : ∀ c ∈ [0, 19, 20, 127], ¬ c ∈ l) (H : NW r h N M) : NW r h' N M :=
  ⟨by rw [chJ_fld q (hl _ (by simp)) (hl _ (by simp))]; exact H.1, by rw [NWl_cg N (fun i _ => ⟨chJ_row q (by omega) (hl _ (by simp)) i, chJ_row q (by omega) (hl _ (by simp)) i⟩)]; exact H.2⟩
theorem PIL_ch {r : Nat} {h h' : mH} {Y : List Nat} {l : List Nat} (q : chJ (sR r l) h h') (hl : ¬ 23 ∈ l) (H : PIL r h Y) : PIL r h' Y := fun i y hi => by rw [chJ_row q (by omega) hl]; exact H i y hi
def sAP : List Nat := [19, 20, 21, 24, 127]
theorem r_applyTwo {G : Nat → Nat} {d r N : Nat} {h : mH} {C : mQ} {X : mX} {Q : List bT} {x y e : bT} {k z : Int} {M : List Int} (hd : 2 ≤ d) (HR : RN r h) (HN : NW r h N M) (hN2 : N < 60) (HO : OP r h N (Q ++ [x, y])) (hQ : Q.length + 2 ≤ 60) (hz0 : z = ((Q.length + 2 : Nat) : Int)) (hk : k = 10 ∧ e = .mul x y ∨ k = 11 ∧ e = .add x y)
    (hC : ∀ h', chJ (sR r sAP) h h' → NW r h' (N + 1) M → OP r h' (N + 1) (Q ++ [e]) → C (some (.inl ((Q ++ [e]).length : Int))) h') :
    callG (wp G) d 130 0 0 3 [.inr (.inl (some r)), .inl k, .inl z] h C X := by
  subst hz0
  have R0 := HR.1; have R_operands := rn_operands HR
  obtain ⟨p1, a1, a2, a3⟩ := HO Q.length x (by simp)
  obtain ⟨p2, b1, b2, b3⟩ := HO (Q.length + 1) y (by simp)
  have e1 : (((Q.length + 2 : Nat) : Int) - 2).toNat = Q.length := by omega
  have e2 : (((Q.length + 2 : Nat) : Int) - 1).toNat = Q.length + 1 := by omega
  have e3 : ((Q.length + 2 : Nat) : Int) - 2 = (Q.length : Int) := by omega
  have e4 : ((Q.length + 2 : Nat) : Int) - 1 = ((Q.length + 1 : Nat) : Int) := by omega
  have hPH : PH r (aP r N h k (p1 : Int) (p2 : Int)) e N := by
    obtain ⟨v1, v2, v3, -, -⟩ := aP_v (r := r) (N := N) (h := h) (k := k) (a := (p1 : Int)) (b := (p2 : Int))
    rcases hk with ⟨rfl, rfl⟩ | ⟨rfl, rfl⟩
    · exact ⟨v1, p1, p2, a1, b1, v2, v3, PH_aP a1 a3, PH_aP b1 b3⟩
    · exact ⟨v1, p1, p2, a1, b1, v2, v3, PH_aP a1 a3, PH_aP b1 b3⟩
  have q1 : chJ (sR r sAP) h (hsetI (aP r N h k (p1 : Int) (p2 : Int)) (r + 24) Q.length (N : Int)) := chJ_trans (chJ_sub aP_ch (by simp [sAP])) (chJ_set (by simp [sR, sAP]))
  have hNW : NW r (hsetI (aP r N h k (p1 : Int) (p2 : Int)) (r + 24) Q.length (N : Int)) (N + 1) M := by
    have := NW_aP (k := k) (a := (p1 : Int)) (b := (p2 : Int)) HN
    rw [if_neg (by rcases hk with ⟨rfl, -⟩ | ⟨rfl, -⟩ <;> omega), List.append_nil] at this
    exact NW_ch (l := [24]) (chJ_set (by simp [sR])) (by simp) this
  have hz := hC _ q1 hNW (OP_last (OP_pre (Q' := [x, y]) HO) rfl hPH)
  have el : ((Q ++ [e]).length : Int) = ((Q.length + 1 : Nat) : Int) := by simp
  rw [el] at hz
  have R24 : hty (aP r N h k (p1 : Int) (p2 : Int)) (r + 24) = some (20, 60) := R_operands.2
  refine cg 1 (by omega) (fun d hd => ?_)
  have hd0 : (0 < d) = True := eq_true (by omega)
  have cadd : ∀ {C : mQ} {X : mX}, C (some (.inl (N : Int))) (aP r N h k (p1 : Int) (p2 : Int)) → callG (wp G) d 126 0 0 4 [.inr (.inl (some r)), .inl k, .inl (p1 : Int), .inl (p2 : Int)] h C X := fun {C X} z => r_addPart HR HN.1 hN2 z
  generalize aP r N h k (p1 : Int) (p2 : Int) = zg at *
  (repeat' (first | with_reducible assumption | (refine cadd ?_) | (refine And.intro ?_ ?_) | (with_reducible intro _) | (simp [wp_eq, wpE, mk_X11_applyTwo, mg, mc_X11_applyTwo, lget, lset, popN, cats, rcv, entL, isArr, kC_s, kC_n, st1, st2, st3, st4, st5, st6, st7, st8, st9, st10, st11, st12, st13, st14, st15, st16, st17, st18, st19, st20, st21, st22, st23, st24, st25, st26, st27, st28, st29, st30, st31, st32, st33, st34, st35, st36, st37, st38, st39, st40, st41, st42, st43, st44, st45, st46, st47, st48, st49, st50, st51, st52, st53, st54, st55, st56, st57, st58, st59, st60, st61, st62, st63, st64, st65, st66, st67, st68, st69, st70, st71, st72, st73, st74, st75, st76, st77, st78, st79, st80, st81, st82, st83, st84, st85, st86, st87, st88, st89, st90, st91, R0, R_operands, -Int.natCast_add, e1, e2, e3, e4, a2, b2, R24, hd0, inR]))) <;> (try (first | omega | exact hz))
theorem nots_loop {G : Nat → Nat} {d r : Nat} {C : mQ} {X : mX} {Q : List bT} {Y : List Nat} {f : bT} {M : List Int} {x1 : Option mV} (hd : 1 ≤ d) (hQ : Q.length + 1 ≤ 60) :
    ∀ (k N : Nat) (e : bT) (h : mH), nts k e = f → Y.length + k ≤ 125 → N + k ≤ 59 → RN r h → NW r h N M → OP r h N (Q ++ [e]) → (∀ i, i < k → hvi h (r + 23) (Y.length + i) = 9) → (∀ i, Y.length = i + 1 → ¬ hvi h (r + 23) i = 9) →
    (∀ h', chJ (sR r sAP) h h' → NW r h' (N + k) M → OP r h' (N + k) (Q ++ [f]) → C (some (.inl (Y.length : Int))) h') →
    wp G d 129 100002 [some (.inr (.inl (some r))), x1, some (.inl ((Q.length : Int) + 1)), some (.inl ((Y.length : Int) + (k : Int)))] [] h 0 0 C X := by
  have hd0 : (0 < d) = True := eq_true (by omega)
  intro k
  induction k with
  | zero =>
    intro N e h he hY hN HR HN HO h9 hY9 hC
    have R0 := HR.1; have R_pile := rn_pile HR; have R_operands := rn_operands HR
    have he : e = f := he
    rw [he] at HO
    have hz := hC h chJ_refl HN HO
    rw [wp_hd]
    by_cases hY0 : Y.length = 0
    · have e0 : (Y.length : Int) + ((0 : Nat) : Int) = 0 := by omega
      have e00 : (Y.length : Int) = 0 := by omega
      rw [e0]
      rw [e00] at hz
      (repeat' (first | with_reducible assumption | (refine And.intro ?_ ?_) | (with_reducible intro _) | (simp [wp_eq, wpE, mk_X11_applyNots, mg, mc_X11_applyNots, lget, lset, popN, cats, rcv, entL, isArr, kC_s, kC_n, st1, st2, st3, st4, st5, st6, st7, st8, st9, st10, st11, st12, st13, st14, st15, st16, st17, st18, st19, st20, st21, st22, st23, st24, st25, st26, st27, st28, st29, st30, st31, st32, st33, st34, st35, st36, st37, st38, st39, st40, st41, st42, st43, st44, st45, st46, st47, st48, st49, st50, st51, st52, st53, st54, st55, st56, st57, st58, st59, st60, st61, st62, st63, st64, st65, st66, st67, st68, st69, st70, st71, st72, st73, st74, st75, st76, st77, st78, st79, st80, st81, st82, st83, st84, st85, st86, st87, st88, st89, st90, st91, R0, R_pile, R_operands]))) <;> (try (first | omega | exact hz))
    · have n9 := hY9 (Y.length - 1) (by omega)
      have e0 : (Y.length : Int) + ((0 : Nat) : Int) = (Y.length : Int) := by omega
      have e1 : ((Y.length : Int) - 1).toNat = Y.length - 1 := by omega
      rw [e0]
      (repeat' (first | with_reducible assumption | (refine And.intro ?_ ?_) | (with_reducible intro _) | (simp [wp_eq, wpE, mk_X11_applyNots, mg, mc_X11_applyNots, lget, lset, popN, cats, rcv, entL, isArr, kC_s, kC_n, st1, st2, st3, st4, st5, st6, st7, st8, st9, st10, st11, st12, st13, st14, st15, st16, st17, st18, st19, st20, st21, st22, st23, st24, st25, st26, st27, st28, st29, st30, st31, st32, st33, st34, st35, st36, st37, st38, st39, st40, st41, st42, st43, st44, st45, st46, st47, st48, st49, st50, st51, st52, st53, st54, st55, st56, st57, st58, st59, st60, st61, st62, st63, st64, st65, st66, st67, st68, st69, st70, st71, st72, st73, st74, st75, st76, st77, st78, st79, st80, st81, st82, st83, st84, st85, st86, st87, st88, st89, st90, st91, R0, R_pile, R_operands, e1, n9, inR, show ¬ (Y.length : Int) ≤ 0 by omega, show 0 < (Y.length : Int) by omega]))) <;> (try (first | omega | exact hz))
  | succ k ih =>
    intro N e h he hY hN HR HN HO h9 hY9 hC
    have R0 := HR.1; have R_pile := rn_pile HR; have R_operands := rn_operands HR
    obtain ⟨p, a1, a2, a3⟩ := HO Q.length e (by simp)
    have c9 := h9 k (by omega)
    have e0 : (Y.length : Int) + ((k + 1 : Nat) : Int) = ((Y.length + k : Nat) : Int) + 1 := by omega
    have e1 : (((Y.length + k : Nat) : Int) + 1 - 1).toNat = Y.length + k := by omega
    have e2 : ((Q.length : Int) + 1 - 1).toNat = Q.length := by omega
    have e3 : ((Y.length + k : Nat) : Int) + 1 + -1 = (Y.length : Int) + (k : Int) := by omega
    have cadd : ∀ {C : mQ} {X : mX}, C (some (.inl (N : Int))) (aP r N h 9 (p : Int) 0) → callG (wp G) d 126 0 0 4 [.inr (.inl (some r)), .inl 9, .inl (p : Int), .inl 0] h C X := fun {C X} z => r_addPart HR HN.1 (by omega) z
    have hPH : PH r (aP r N h 9 (p : Int) 0) (.neg e) N := by
      obtain ⟨v1, v2, v3, -, -⟩ := aP_v (r := r) (N := N) (h := h) (k := 9) (a := (p : Int)) (b := 0)
      exact ⟨v1, p, a1, v2, PH_aP a1 a3⟩
    have q1 : chJ (sR r sAP) h (hsetI (aP r N h 9 (p : Int) 0) (r + 24) Q.length (N : Int)) := chJ_trans (chJ_sub aP_ch (by simp [sAP])) (chJ_set (by simp [sR, sAP]))
    have hNW : NW r (hsetI (aP r N h 9 (p : Int) 0) (r + 24) Q.length (N : Int)) (N + 1) M := by
      have := NW_aP (k := 9) (a := (p : Int)) (b := 0) HN
      rw [if_neg (by omega), List.append_nil] at this
      exact NW_ch (l := [24]) (chJ_set (by simp [sR])) (by simp) this
    have HO1 := OP_last (OP_pre (Q' := [e]) HO) rfl hPH
    have p23 : ∀ i, hvi (hsetI (aP r N h 9 (p : Int) 0) (r + 24) Q.length (N : Int)) (r + 23) i = hvi h (r + 23) i := fun i => chJ_row q1 (by omega) (by simp [sAP]) i
    have hz := ih (N + 1) (.neg e) (hsetI (aP r N h 9 (p : Int) 0) (r + 24) Q.length (N : Int)) he (by omega) (by omega) (RN_ch q1 HR) hNW HO1 (fun i hi => by rw [p23]; exact h9 i (by omega)) (fun i hi => by rw [p23]; exact hY9 i hi) (fun h' s1 s2 s3 => hC h' (chJ_trans q1 s1) (by rw [show N + (k + 1) = N + 1 + k by omega]; exact s2) (by rw [show N + (k + 1) = N + 1 + k by omega]; exact s3))
    have R24 : hty (aP r N h 9 (p : Int) 0) (r + 24) = some (20, 60) := R_operands.2
    generalize aP r N h 9 (p : Int) 0 = zg at *
    rw [wp_hd, e0]
    (repeat' (first | with_reducible assumption | (refine cadd ?_) | (refine And.intro ?_ ?_) | (with_reducible intro _) | (simp [wp_eq, wpE, mk_X11_applyNots, mg, mc_X11_applyNots, lget, lset, popN, cats, rcv, entL, isArr, kC_s, kC_n, st1, st2, st3, st4, st5, st6, st7, st8, st9, st10, st11, st12, st13, st14, st15, st16, st17, st18, st19, st20, st21, st22, st23, st24, st25, st26, st27, st28, st29, st30, st31, st32, st33, st34, st35, st36, st37, st38, st39, st40, st41, st42, st43, st44, st45, st46, st47, st48, st49, st50, st51, st52, st53, st54, st55, st56, st57, st58, st59, st60, st61, st62, st63, st64, st65, st66, st67, st68, st69, st70, st71, st72, st73, st74, st75, st76, st77, st78, st79, st80, st81, st82, st83, st84, st85, st86, st87, st88, st89, st90, st91, R0, R_pile, R_operands, -Int.natCast_add, e1, e2, e3, a2, c9, R24, hd0, inR, show ¬ ((Y.length + k : Nat) : Int) + 1 ≤ 0 by omega, show 0 < ((Y.length + k : Nat) : Int) + 1 by omega]))) <;> (try (first | omega | exact hz))
theorem r_applyNots {G : Nat → Nat} {d r N k : Nat} {h : mH} {C : mQ} {X : mX} {Q : List bT} {Y : List Nat} {e : bT} {M : List Int} {z y : Int} (hd : 2 ≤ d) (hQ : Q.length + 1 ≤ 60) (hY : Y.length + k ≤ 125) (hN : N + k ≤ 59) (HR : RN r h) (HN : NW r h N M) (HO : OP r h N (Q ++ [e])) (HL : PIL r h (Y ++ List.replicate k 9)) (hY9 : ∀ i, Y.length = i + 1 → ¬ Y[i]? = some 9) (hy : y = ((Y.length + k : Nat) : Int)) (hz : z = ((Q.length + 1 : Nat) : Int))
    (hC : ∀ h', chJ (sR r sAP) h h' → NW r h' (N + k) M → OP r h' (N + k) (Q ++ [nts k e]) → C (some (.inl (Y.length : Int))) h') :
    callG (wp G) d 129 0 0 4 [.inr (.inl (some r)), .inl y, .inl z] h C X := by
  subst hz hy
  have R0 := HR.1
  have l9 : ∀ i, i < k → hvi h (r + 23) (Y.length + i) = 9 := fun i hi => by
    have := HL (Y.length + i) 9 (by rw [List.getElem?_append_right (by omega), show Y.length + i - Y.length = i by omega, List.getElem?_replicate, if_pos hi])
    simpa using this
  have lY : ∀ i, Y.length = i + 1 → ¬ hvi h (r + 23) i = 9 := fun i hi q => by
    have hil : i < Y.length := by omega
    have h2 := HL i Y[i] (by rw [List.getElem?_append_left hil]; exact List.getElem?_eq_getElem hil)
    rw [q] at h2
    exact hY9 i hi (by rw [List.getElem?_eq_getElem hil]; congr 1; omega)
  refine cg 1 (by omega) (fun d hd => ?_)
  have hd0 : (0 < d) = True := eq_true (by omega)
  have hz := fun x1 => nots_loop (G := G) (d := d) (C := C) (X := fun _ _ => False) (x1 := x1) (f := nts k e) (by omega) hQ k N e h rfl hY hN HR HN HO l9 lY hC
  rw [show (Q.length : Int) + 1 = ((Q.length + 1 : Nat) : Int) by omega, show (Y.length : Int) + (k : Int) = ((Y.length + k : Nat) : Int) by omega] at hz
  (repeat' (first | with_reducible assumption | (refine And.intro ?_ ?_) | (with_reducible intro _) | (simp [wp_eq, wpE, mk_X11_applyNots, mg, mc_X11_applyNots, lget, lset, popN, cats, rcv, entL, isArr, kC_s, kC_n, st1, st2, st3, st4, st5, st6, st7, st8, st9, st10, st11, st12, st13, st14, st15, st16, st17, st18, st19, st20, st21, st22, st23, st24, st25, st26, st27, st28, st29, st30, st31, st32, st33, st34, st35, st36, st37, st38, st39, st40, st41, st42, st43, st44, st45, st46, st47, st48, st49, st50, st51, st52, st53, st54, st55, st56, st57, st58, st59, st60, st61, st62, st63, st64, st65, st66, st67, st68, st69, st70, st71, st72, st73, st74, st75, st76, st77, st78, st79, st80, st81, st82, st83, st84, st85, st86, st87, st88, st89, st90, st91, -Int.natCast_add, R0]))) <;> (try (first | omega | exact hz))
  all_goals exact hz _
