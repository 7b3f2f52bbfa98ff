/-! NEW PLACES -/
def npW (L : List Int) (k : Nat) : List Int := (L.drop (wS L k)).take (lS L k - wS L k)
def npD (T : aT) (here : Nat) (L : List Int) (k : Nat) : Int := if lS L k = wS L k then (here : Int) else (wkR T true here (npW L k)).1
def npR (T : aT) (L : List Int) (k : Nat) (fn : Bool) (z : Int) : Int :=
  if z < 0 then z else if ¬ tK T z.toNat = 0 then -3 else if bAnd (tB T z.toNat) 2 = 0 ∨ bAnd (tB T z.toNat) 1 = 0 then -4
  else if ¬ lkE (nmL L k) (tE T z.toNat) = none then -7 else if 12 ≤ (tE T z.toNat).length ∨ (fn = true ∧ 48 ≤ cnt T 48) then -8 else z
def npl (T : aT) (here : Nat) (L : List Int) (k : Nat) (fn : Bool) : Int :=
  if ¬ k < (wds L).length then -2 else if isNm (nmL L k) = false then -6 else npR T L k fn (npD T here L k)
theorem npW_len (L : List Int) (k : Nat) : (npW L k).length = lS L k - wS L k := by
  have := lE_b L k
  simp [npW]; omega
theorem npW_get {L : List Int} {k i : Nat} (h : i < lS L k - wS L k) : lf (npW L k) i = lf L (wS L k + i) := by
  simp [lf, npW, List.getElem?_take, h]
theorem npW_b {L : List Int} (b : bd L) (k : Nat) : bd (npW L k) := fun c hc => b c (List.mem_of_mem_drop (List.mem_of_mem_take hc))
theorem nmL_b {L : List Int} (b : bd L) (k : Nat) : bd (nmL L k) := fun c hc => b c (List.mem_of_mem_drop (List.mem_of_mem_take hc))
/-- a way's end: a fault or a node -/
theorem wk_res {T : aT} {fol : Bool} (hW : wfW T) (h48 : ∀ n v, T n = some v → n < 48) : ∀ (f nd lk : Nat) (cm : aC) (w : List Int), nd < 48 → (wk T fol f nd lk cm w).1 < 0 ∨ ∃ n : Nat, n < 48 ∧ (wk T fol f nd lk cm w).1 = (n : Int) := by
  intro f
  induction f with
  | zero => intro nd lk cm w _; left; simp [wk]
  | succ f ih =>
    intro nd lk cm w hnd
    simp only [wk]
    split
    · split
      · left; decide
      · right; exact ⟨nd, hnd, rfl⟩
    · cases hs : stp T fol nd lk (dsl w) with
      | inl z => left; exact stp_neg hs
      | inr q =>
        refine ih q.1 q.2.1 q.2.2.1 q.2.2.2 ?_
        unfold stp at hs
        cases hT : T nd with
        | none => simp [tK, hT] at hs
        | some v =>
          have hwv := hW nd v hnd hT
          split at hs
          · cases hs
          split at hs
          · cases hs
          split at hs
          · cases hs; exact hnd
          split at hs
          · cases hs; simpa [tA, hT] using hwv.2.1
          split at hs
          · cases hs
          · rename_i n hn
            have hE : tE T nd = nE v := by simp [tE, hT]
            rw [hE] at hn
            split at hs
            · split at hs
              · cases hs
              · cases hs; show (if _ then _ else _) < 48; split <;> omega
            · cases hs
              exact h48 n (hwv.1 _ (lkE_mem hn)).choose (hwv.1 _ (lkE_mem hn)).choose_spec

/-! THE STATE of the class -/
def cTy : List (Nat × Nat × Nat) := [(0, 10, 7), (1, 4, 5), (2, 21, 100), (3, 20, 50), (4, 20, 50), (12, 6, 3), (13, 21, 1500), (14, 1, 8), (15, 20, 50), (16, 20, 50), (17, 20, 50), (18, 21, 50), (19, 2, 14), (20, 8, 5), (21, 22, 51), (22, 22, 51), (23, 22, 51), (24, 22, 51), (25, 21, 820), (26, 3, 2)]
def cRf : List (Nat × Nat × Nat) := [(0, 0, 1), (0, 1, 5), (0, 2, 10), (0, 3, 12), (0, 4, 14), (0, 5, 19), (1, 0, 2), (1, 1, 3), (1, 2, 4), (12, 0, 13), (14, 0, 1), (14, 1, 15), (14, 2, 16), (14, 3, 17), (14, 4, 18), (19, 0, 5), (19, 1, 14), (19, 2, 12), (19, 3, 26), (19, 4, 20), (19, 5, 25), (20, 0, 21), (20, 1, 22), (20, 2, 23), (20, 3, 24), (26, 0, 1)]
def CF (c : Nat) (h : mH) : Prop := (∀ p ∈ cTy, hty h (c + p.1) = some p.2) ∧ ∀ q ∈ cRf, hvr h (c + q.1) q.2.1 = some (c + q.2.2)
/-- kinds of cells that the Way and the Tree write -/
def yk (o : Option (Nat × Nat)) : Prop := o = some (9, 7) ∨ o = some (21, 420) ∨ o = some (5, 10) ∨ (∃ k, o = some (25, k)) ∨ o = some (7, 3) ∨ o = some (24, 48)
theorem yk_no {o : Option (Nat × Nat)} {p : Nat × Nat × Nat} (hp : p ∈ cTy) (h : o = some p.2) : ¬ yk o := by
  subst h
  intro q
  have key : ∀ p ∈ cTy, ¬ p.2 = (9, 7) ∧ ¬ p.2 = (21, 420) ∧ ¬ p.2 = (5, 10) ∧ ¬ p.2.1 = 25 ∧ ¬ p.2 = (7, 3) ∧ ¬ p.2 = (24, 48) := by decide
  obtain ⟨k1, k2, k3, k4, k5, k6⟩ := key p hp
  rcases q with q | q | q | ⟨k, q⟩ | q | q
  · injection q with q; exact k1 q
  · injection q with q; exact k2 q
  · injection q with q; exact k3 q
  · injection q with q; exact k4 (by rw [q])
  · injection q with q; exact k5 q
  · injection q with q; exact k6 q
theorem CF_ex {S : Nat → Prop} {c : Nat} {h h' : mH} (q : ex S h h') (hS : ∀ x, S x → yk (hty h x)) (H : CF c h) : CF c h' := by
  obtain ⟨h1, h2⟩ := H
  have key : ∀ p ∈ cRf, ∃ t ∈ cTy, t.1 = p.1 := by decide
  refine ⟨fun p hp => ?_, fun p hp => ?_⟩
  · have := h1 p hp
    rw [(q.2 _ (by rw [this]; simp)).1]; exact this
  · obtain ⟨t, ht, he⟩ := key p hp
    have h3 := h1 t ht
    rw [he] at h3
    have hn : ¬ S (c + p.1) := fun z => yk_no ht h3 (hS _ z)
    rw [((q.2 _ (by rw [h3]; simp)).2 hn _).1]; exact h2 p hp
theorem CF_chI {S : Nat → Prop} {c : Nat} {h h' : mH} (q : chI S h h') (H : CF c h) : CF c h' := ⟨fun p hp => by rw [q.2.1]; exact H.1 p hp, fun p hp => by rw [q.2.2.1]; exact H.2 p hp⟩
theorem LI_ex {S : Nat → Prop} {l : Nat} {h h' : mH} {L : List Int} (q : ex S h h') (hS : ∀ x, S x → yk (hty h x)) (H : LI l h L) : LI l h' L := by
  obtain ⟨⟨a1, a2, a3, a4, a5, a6, a7⟩, ⟨b1, b2, b3, b4, b5⟩, b6⟩ := H
  have n0 : ¬ S l := fun z => by have := hS _ z; rw [a1] at this; simp [yk] at this
  have n1 : ¬ S (l + 1) := fun z => by have := hS _ z; rw [a5] at this; simp [yk] at this
  have n2 : ¬ S (l + 2) := fun z => by have := hS _ z; rw [a6] at this; simp [yk] at this
  have n3 : ¬ S (l + 3) := fun z => by have := hS _ z; rw [a7] at this; simp [yk] at this
  have q0 := q.2 l (by rw [a1]; simp)
  have q1 := q.2 (l + 1) (by rw [a5]; simp)
  have q2 := q.2 (l + 2) (by rw [a6]; simp)
  have q3 := q.2 (l + 3) (by rw [a7]; simp)
  refine ⟨⟨by rw [q0.1]; exact a1, by rw [(q0.2 n0 _).1]; exact a2, by rw [(q0.2 n0 _).1]; exact a3, by rw [(q0.2 n0 _).1]; exact a4, by rw [q1.1]; exact a5, by rw [q2.1]; exact a6, by rw [q3.1]; exact a7⟩, ⟨b1, by rw [(q0.2 n0 _).2]; exact b2, fun i hi => by rw [(q1.2 n1 _).2]; exact b3 i hi, by rw [(q0.2 n0 _).2]; exact b4, fun k hk => by rw [(q2.2 n2 _).2, (q3.2 n3 _).2]; exact b5 k hk⟩, b6⟩
def PG (g : Nat) (h : mH) (O : List Int) : Prop := hty h g = some (6, 3) ∧ hty h (g + 1) = some (21, 1500) ∧ hvi h g 1 = (O.length : Int) ∧ O.length ≤ 1500 ∧ ro h (g + 1) 0 O ∧ bd O
theorem PG_ex {S : Nat → Prop} {g : Nat} {h h' : mH} {O : List Int} (q : ex S h h') (hS : ∀ x, S x → yk (hty h x)) (H : PG g h O) : PG g h' O := by
  obtain ⟨a1, a2, a3, a4, a5, a6⟩ := H
  have n0 : ¬ S g := fun z => by have := hS _ z; rw [a1] at this; simp [yk] at this
  have n1 : ¬ S (g + 1) := fun z => by have := hS _ z; rw [a2] at this; simp [yk] at this
  have q0 := q.2 g (by rw [a1]; simp)
  have q1 := q.2 (g + 1) (by rw [a2]; simp)
  exact ⟨by rw [q0.1]; exact a1, by rw [q1.1]; exact a2, by rw [(q0.2 n0 _).2]; exact a3, a4, fun i hi => by rw [(q1.2 n1 _).2]; exact a5 i hi, a6⟩
/-- each directory knows its entry -/
def TI (t : Nat) (h : mH) (T : aT) : Prop := ∀ n v, n < 48 → T n = some v → nK v = 0 → ¬ n = 0 → ∃ a e s, hvr h (t + 1) n = some a ∧ hvr h a 9 = some e ∧ EN h e (s, n) ∧ (s, n) ∈ tE T (nA v)
theorem TI_ex {S : Nat → Prop} {t : Nat} {h h' : mH} {T : aT} {here : Nat} (q : ex S h h') (hS : ∀ x, S x → frn (hty h x)) (HT : TR t h T here) (H : TI t h T) : TI t h' T := by
  intro n v hn hT hk h0
  obtain ⟨a, e, s, h1, h2, h3, h4⟩ := H n v hn hT hk h0
  obtain ⟨t1, t2, t3, t4, t5, t6, t7, t8⟩ := HT
  obtain ⟨a', x1, x2⟩ := t7 n v hn hT
  rw [h1] at x1; cases x1
  have q1 := q.2 (t + 1) (by rw [t3]; simp)
  have qa := q.2 a (by rw [x2.1]; simp)
  exact ⟨a, e, s, by rw [(q1.2 (fun z => (hS _ z).2.2.2.1 t3) _).1]; exact h1, by rw [(qa.2 (fun z => (hS _ z).1 x2.1) _).1]; exact h2, EN_ex q (fun x sx => ⟨(hS x sx).2.1, fun n hn => (hS x sx).2.2.2.2.2 n (by omega)⟩) h3, h4⟩
def CS (c : Nat) (h : mH) (L : List Int) (T : aT) (here : Nat) (O : List Int) (cp bad : Int) : Prop := CF c h ∧ LI (c + 1) h L ∧ TR (c + 5) h T here ∧ WY (c + 10) (c + 5) h ∧ TI (c + 5) h T ∧ PG (c + 12) h O ∧ hvi h (c + 19) 8 = cp ∧ hvi h c 6 = bad ∧ fsh h ∧ wf T here
theorem yS_yk {c : Nat} {h : mH} (H : WY (c + 10) (c + 5) h) : ∀ x, yS (c + 10) x → yk (hty h x) := fun x hx => by
  rcases hx with rfl | rfl
  · rw [H.1]; exact Or.inl rfl
  · rw [H.2.2.2]; exact Or.inr (Or.inl rfl)
theorem CS_way {c : Nat} {h h' : mH} {L : List Int} {T : aT} {here : Nat} {O : List Int} {cp bad : Int} (H : CS c h L T here O cp bad) (q : ch (yS (c + 10)) h h') (hw : WY (c + 10) (c + 5) h') : CS c h' L T here O cp bad := by
  obtain ⟨h1, h2, h3, h4, h5, h6, h7, h8, h9, h10⟩ := H
  have hk := yS_yk h4
  have n19 : ¬ yS (c + 10) (c + 19) := fun z => by rcases z with z | z <;> omega
  have n0 : ¬ yS (c + 10) c := fun z => by rcases z with z | z <;> omega
  exact ⟨CF_ex (ex_ch q) hk h1, LI_ex (ex_ch q) hk h2, TR_ch q (WY_frn h4) h3, hw, TI_ex (ex_ch q) (WY_frn h4) h3 h5, PG_ex (ex_ch q) hk h6, by rw [(q.2.2.2 _ n19 _).2]; exact h7, by rw [(q.2.2.2 _ n0 _).2]; exact h8, fsh_ch q h9, h10⟩
def nwR (T : aT) (here : Nat) (L : List Int) (k : Nat) (fol : Bool) : Int × aC := if k < (wds L).length then wkR T fol here (wd L k) else (-2, none)
theorem c_alongZ {G : Nat → Nat} {d y t a N o k : Nat} {z : Int} {h : mH} {C : mQ} {X : mX} {T : aT} {here : Nat} {fol : Bool} {u : List Int} (hz : z = ((o + u.length : Nat) : Int)) (hd : 6 ≤ d) (hk : k = 21 ∨ k = 51) (HT : TR t h T here) (hh : here < 48) (hW : wfW T) (H : WY y t h) (ht : hty h a = some (k, N)) (hay : ¬ a = y + 1) (hN : o + u.length ≤ N) (hu : ro h a o u) (hu1 : ¬ u = []) (bu : bd u) (hul : u.length ≤ 100)
    (hC : ∀ h', ch (yS y) h h' → WY y t h' → (∀ (n : Nat) c, wkR T fol here u = ((n : Int), c) → n < 48 ∧ cmO y t h' T n c) → C (some (.inl (wkR T fol here u).1)) h') :
    callG (wp G) d 64 0 0 9 [.inr (.inl (some y)), .inr (.inl (some a)), .inl (o : Int), .inl z, .inl (b01 fol)] h C X := by
  subst hz; exact c_along hd hk HT hh hW H ht hay hN hu hu1 bu hul hC
theorem c_nodeOfWord {G : Nat → Nat} {d c k : Nat} {h : mH} {C : mQ} {X : mX} {L : List Int} {T : aT} {here : Nat} {O : List Int} {cp bad : Int} {fol : Bool} (hd : 7 ≤ d) (H : CS c h L T here O cp bad)
    (hC : ∀ h', CS c h' L T here O cp bad → (∀ (n : Nat) cm, nwR T here L k fol = ((n : Int), cm) → n < 48 ∧ cmO (c + 10) (c + 5) h' T n cm) → C (some (.inl (nwR T here L k fol).1)) h') :
    callG (wp G) d 86 0 0 3 [.inr (.inl (some c)), .inl (k : Int), .inl (b01 fol)] h C X := by
  have HH := H
  obtain ⟨h1, h2, h3, h4, h5, h6, h7, h8, h9, h10⟩ := HH
  have hLL := h2
  obtain ⟨⟨a1, a2, a3, a4, a5, a6, a7⟩, ⟨b1, b2, b3, b4, b5⟩, b6⟩ := hLL
  have x1 : hty h c = some (10, 7) := h1.1 (0, 10, 7) (by decide)
  have x2 : hvr h c 0 = some (c + 1) := h1.2 (0, 0, 1) (by decide)
  have x3 : hvr h c 2 = some (c + 10) := h1.2 (0, 2, 10) (by decide)
  have hw1 := h4.1
  unfold nwR at hC
  refine cg 6 (by omega) (fun d hd => ?_)
  have hd0 : (0 < d) = True := eq_true (by omega)
  by_cases hk : k < (wds L).length
  · rw [if_pos hk] at hC
    have hat := wds_at hk
    have hwl := wd_len L k
    have hE : (wE L k : Int) = ((wS L k + (wd L k).length : Nat) : Int) := by omega
    (repeat' (first | with_reducible assumption | (refine c_start h2 ?_) | (refine c_end h2 ?_) | (refine c_alongZ (o := wS L k) (u := wd L k) hE (by omega) (Or.inl rfl) h3 h10.2.1.1 (wf_W h10) h4 a5 (by omega) (by omega) (fun i hi => by rw [wd_get (by omega)]; exact b3 _ (by omega)) (fun q => by rw [q] at hwl; simp at hwl; omega) (wd_b b6 k) (by omega) ?_) | (refine And.intro ?_ ?_) | (with_reducible intro _) | (simp [wp_eq, wpE, mk_X10_nodeOfWord, mg, mc_X10_nodeOfWord, lget, lset, popN, cats, rcv, entL, isArr, kC_s, kC_n, st1, st2, st3, st4, st5, st6, st7, st8, st9, st10, st11, st12, st13, st14, st15, st16, st17, st18, st19, st20, st21, st22, st23, st24, st25, st26, st27, st28, st29, st30, st31, st32, st33, st34, st35, st36, st37, st38, st39, st40, st41, st42, st43, st44, st45, st46, st47, st48, st49, st50, st51, st52, st53, st54, st55, st56, st57, st58, st59, st60, st61, st62, st63, st64, st65, st66, st67, st68, st69, st70, st71, st72, st73, st74, st75, st76, st77, st78, st79, st80, st81, st82, st83, st84, st85, st86, st87, st88, st89, st90, st91, x1, x2, x3, hw1, a1, a2, b4, hk, hd0]))) <;> (try (first | omega | exact hz))
    rename_i h' p1 p2 p3
    exact hC h' (CS_way H p1 p2) p3
  · rw [if_neg hk] at hC
    have hz := hC h H (fun n cm q => by cases q)
    (repeat' (first | with_reducible assumption | (refine And.intro ?_ ?_) | (with_reducible intro _) | (simp [wp_eq, wpE, mk_X10_nodeOfWord, mg, mc_X10_nodeOfWord, lget, lset, popN, cats, rcv, entL, isArr, kC_s, kC_n, st1, st2, st3, st4, st5, st6, st7, st8, st9, st10, st11, st12, st13, st14, st15, st16, st17, st18, st19, st20, st21, st22, st23, st24, st25, st26, st27, st28, st29, st30, st31, st32, st33, st34, st35, st36, st37, st38, st39, st40, st41, st42, st43, st44, st45, st46, st47, st48, st49, st50, st51, st52, st53, st54, st55, st56, st57, st58, st59, st60, st61, st62, st63, st64, st65, st66, st67, st68, st69, st70, st71, st72, st73, st74, st75, st76, st77, st78, st79, st80, st81, st82, st83, st84, st85, st86, st87, st88, st89, st90, st91, x1, x2, a1, b4, hk]))) <;> (try (first | omega | exact hz))
