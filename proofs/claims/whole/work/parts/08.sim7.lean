set_option maxRecDepth 100000 in
theorem ar1 {a d r : Nat} (h : a ≤ 20) (hr : (d + 1) * 80 + 400 ≤ r) : 8 + (a + 11) + (d * 80 + 400) ≤ r := by omega
theorem ar2 {d r : Nat} (h : 0 < d) (hr : d + 10 ≤ r) : d - 1 + 10 + 1 ≤ r := by omega
theorem popN_spec : ∀ (n : Nat) (st acc as r : List mV), popN n st acc = some (as, r) → ∃ pre : List mV, as = pre ++ acc ∧ st = pre.reverse ++ r ∧ pre.length = n ∧ ∀ v ∈ pre, (toV v).category = 1
  | 0, st, acc, as, r, h => by
    simp only [popN, Option.some.injEq, Prod.mk.injEq] at h
    exact ⟨[], by simp [h.1], by simp [h.2], rfl, fun v hv => nomatch hv⟩
  | n + 1, [], acc, as, r, h => by simp [popN] at h
  | n + 1, .inl z :: st, acc, as, r, h => by
    obtain ⟨pre, h1, h2, h3, h4⟩ := popN_spec n st (.inl z :: acc) as r h
    refine ⟨pre ++ [.inl z], by simp [h1], by simp [h2], by simp [h3], fun v hv => ?_⟩
    rcases List.mem_append.mp hv with q | q
    · exact h4 v q
    · rw [List.mem_singleton.mp q]; rfl
  | n + 1, .inr (.inl z) :: st, acc, as, r, h => by
    obtain ⟨pre, h1, h2, h3, h4⟩ := popN_spec n st (.inr (.inl z) :: acc) as r h
    refine ⟨pre ++ [.inr (.inl z)], by simp [h1], by simp [h2], by simp [h3], fun v hv => ?_⟩
    rcases List.mem_append.mp hv with q | q
    · exact h4 v q
    · rw [List.mem_singleton.mp q]; exact va_rf_cat z
  | n + 1, .inr (.inr z) :: st, acc, as, r, h => by simp [popN] at h
theorem lget_rep : ∀ (n i : Nat) (v : mV), ¬ lget (List.replicate n none) i = some v
  | 0, i, v => by simp [lget]
  | n + 1, 0, v => by simp [List.replicate_succ, lget]
  | n + 1, i + 1, v => by
    rw [List.replicate_succ]
    exact lget_rep n i v
theorem lget_map : ∀ (as : List mV) (t : List (Option mV)) (i : Nat) (v : mV), (∀ j w, ¬ lget t j = some w) → lget (as.map some ++ t) i = some v → as[i]? = some v
  | [], t, i, v, ht, h => absurd h (ht i v)
  | a :: as, t, 0, v, ht, h => by simpa [lget] using h
  | a :: as, t, i + 1, v, ht, h => by
    have := lget_map as t i v ht h
    simpa using this
theorem lget_ent {n : Nat} {as : List mV} {i : Nat} {v : mV} (h : lget (entL n as) i = some v) : as[i]? = some v := lget_map as _ i v (fun j w => lget_rep _ j w) h
theorem lva_mem : ∀ (as : List mV) (o i : Nat) (v : mV), (∀ w ∈ as, (toV w).category = 1) → as[i]? = some v → (o + i, toV v) ∈ lv_args o (as.map toV)
  | [], o, i, v, _, h => by simp at h
  | a :: as, o, 0, v, _, h => by
    simp at h
    subst h
    exact List.mem_cons_self
  | a :: as, o, i + 1, v, hc, h => by
    have ha : (toV a).category = 1 := hc a List.mem_cons_self
    show (o + (i + 1), toV v) ∈ (o, toV a) :: lv_args (if (toV a).category = 2 then o + 2 else o + 1) (as.map toV)
    rw [ha, if_neg (by decide)]
    have := lva_mem as (o + 1) i v (fun w hw => hc w (List.mem_cons_of_mem _ hw)) (by simpa using h)
    rw [show o + (i + 1) = o + 1 + i by omega]
    exact List.mem_cons_of_mem _ this
theorem lgs_len : ∀ (as : List mV), (∀ w ∈ as, (toV w).category = 1) → (lg_sl (as.map toV)).length = as.length
  | [], _ => rfl
  | a :: as, hc => by
    have ha : (toV a).category = 1 := hc a List.mem_cons_self
    have := lgs_len as (fun w hw => hc w (List.mem_cons_of_mem _ hw))
    unfold lg_sl at this ⊢
    simp [ha, this]
theorem okL_ent {n : Nat} {as : List mV} (hn : as.length ≤ n) (hc : ∀ w ∈ as, okV w ∧ (toV w).category = 1) : okL (entL n as) ((lg_sl (as.map toV) ++ List.replicate (n - (lg_sl (as.map toV)).length) Slot.unset).toArray) n := by
  have hc1 : ∀ w ∈ as, (toV w).category = 1 := fun w hw => (hc w hw).2
  have hl := lv_entry (as.map toV) (n := n) (by rw [lgs_len as hc1]; exact hn)
  refine ⟨by simp [entL]; omega, ⟨hl.1, hl.2.1, fun q hq => ?_⟩, fun i v hv => ?_⟩
  · obtain ⟨i, -, he⟩ := List.mem_filterMap.mp hq
    cases hg : lget (entL n as) i with
    | none => rw [hg] at he; simp at he
    | some v =>
      rw [hg] at he
      simp at he
      rw [← he]
      have := lva_mem as 0 i v hc1 (lget_ent hg)
      rw [Nat.zero_add] at this
      exact hl.2.2 _ this
  · exact hc v (List.mem_of_getElem? (lget_ent hv))
def rmO (d mc ms : Nat) : Room := { frames := d + 10, cells := mc, slots := ms, locals := (d + 1) * 80 + 400 }
def pcO (D : mD) (KX : State → Prop) (as : List mV) (h : mH) : Array Value → State → Prop := fun av U => av = (as.map toV).toArray ∧ Rel D h U.heap ∧ KF D KX U
theorem cwd_ws {k : Nat} (hk : k < 162) (hne : k ≠ 161) : cwd k ∈ WS := by
  refine ws_p ((cw_all k hk).resolve_left hne) ?_
  unfold cwd
  split <;> rfl
theorem cwd_good {k : Nat} (hk : k < 162) (hne : k ≠ 161) : GoodIn WS (cwd k :: WS) := fun w hw => (List.mem_cons.mp hw).elim (fun e => by rw [e]; exact ws_good _ (cwd_ws hk hne)) (ws_good w)
section Sim
variable {D : mD} {KX : State → Prop} {d k pc nx x : Nat} {y : List Nat} {ls : List (Option mV)} {st : List mV} {h : mH} {bc bs : Nat} {Q : mQ} {X : mX}
variable {p : Program} {l : Launch} {e : Env} {R : Room} {s : State} {m : MethodId} {args : Array Value} {below : List Frame} {meth : Method} {c : Code} {H : Heap} {locs : List Loc} {cells slots : Nat} {LS : Array Slot}
theorem met_body {ws : List Cond} (hws : ∀ w ∈ WS, w ∈ ws) {kk dd mc ms : Nat} {as : List mV} {Qc : mQ} {Xc : mX} (hl : l.stackTraces = false) (hk : kk < 162) (hne : kk ≠ 161) (hN : as.length = mNa kk) (hok : ∀ v ∈ as, okV v ∧ (toV v).category = 1) (hs : simP D KX dd kk 0 (entL (mL kk) as) [] h mc ms Qc Xc)
    {av : Array Value} {s₁ : State} (B : BodyLoose p l (mY kk) (headSpec ws (rmO dd mc ms)) (mB kk) (mL kk) (mR kk) e s m av below meth c s₁) (hml : c.maxLocals = mL kk) (hex : c.exceptionTable.toList = tableOf (mHh kk)) (hP : pcO D KX as h av s) :
    W p l e (rmO dd mc ms) s m av below meth c s.heap [] 0 0 (vx_MQ below (qQ D Qc) (qX D Xc) av s mc ms (Ao D)) (entryFrame m av (mL kk)) := by
  obtain ⟨rfl, hrel, hkf⟩ := hP
  have hts : ∀ w ∈ ws, w.before (as.map toV).toArray s = true := atoms_spec (ws := ws) B.pre
  have hcls : (mY kk).cls = RRc (mC kk) := (okM0 kk hk).resolve_left hne
  have hown := findClass_of_methodNamed B.named
  rw [hcls] at hown
  have hna : mNa kk ≤ mL kk := (okM5 kk hk).resolve_left hne
  rw [lg_entry_eq]
  exact hs p l e (rmO dd mc ms) s m _ below meth c s.heap [] 0 0 _ ⟨B.exec, B.bytes, hml, hown, fun w hw => hts w (hws w hw), B.notSynchronized, B.returns, fun q => (name_of_methodNamed B.named B.method).1.trans q, Or.inr hex, hl, hkf, hk, by rw [hrel.1]; exact hrel.2.1, hrel.2.2.2.2.1⟩ hrel (okL_ent (by omega) hok) (fun v hv => nomatch hv) ⟨Nat.le_refl _, Nat.le_refl _⟩ (by simp [rmO]) (by simp [rmO]) (fun z hz => nomatch hz)
theorem met_of {kk dd mc ms : Nat} {as : List mV} {Qc : mQ} {Xc : mX} (hl : l.stackTraces = false) (hk : kk < 162) (hne : kk ≠ 161) (hN : as.length = mNa kk) (hok : ∀ v ∈ as, okV v ∧ (toV v).category = 1) (hs : simP D KX dd kk 0 (entL (mL kk) as) [] h mc ms Qc Xc) :
    vx_Met l (mY kk) (cwd kk :: WS) (rmO dd mc ms) (pcO D KX as h) (qQ D Qc) (qX D Xc) mc ms (Ao D) := by
  have hpl : plainName (mY kk).cls = true := (okM1 kk hk).resolve_left hne
  by_cases h0 : mHh kk = []
  · refine vx_ofW (ws' := WS) (cc := mB kk) (maxL := mL kk) (ret := mR kk) hpl (by rw [cwd, if_pos h0]) (fun p e s m av below meth c s₁ B hml hex hP => met_body (fun w hw => List.mem_cons_of_mem _ hw) hl hk hne hN hok hs B hml ?_ hP)
    rw [h0]
    cases hq : c.exceptionTable.toList with
    | nil => rfl
    | cons x t => exact (hex x (by rw [hq]; exact List.mem_cons_self)).elim
  · refine vx_ofWH (ws' := WS) (cc := mB kk) (maxL := mL kk) (ret := mR kk) (hh := mHh kk) hpl (by rw [cwd, if_neg h0]) (fun p e s m av below meth c s₁ B hml hP => met_body (fun w hw => List.mem_cons_of_mem _ hw) hl hk hne hN hok hs B hml ?_ hP)
    have hts := atoms_spec (ws := cwd kk :: WS) B.pre (cwd kk) List.mem_cons_self
    rw [cwd, if_neg h0] at hts
    exact vx_table (x := mY kk) B hts
theorem met_vx {y : MethodName} {ws : List Cond} {rm : Room} {Pc : Array Value → State → Prop} {Qc : Array Value → State → Outcome → State → Prop} {XC : String → State → State → Prop} {mc ms : Nat} {free : Addr → Prop} (hm : vx_Met l y ws rm Pc Qc XC mc ms free) (hx : ∀ E u t, ¬ XC E u t) : Met l y ws rm Pc Qc mc ms free := by
  intro p e a1 a2 a3 s m args below f ap P K
  obtain ⟨n, o, h1, h2, h3, h4⟩ := hm p e a1 a2 a3 s m args below f ap P K
  refine ⟨n, o, h1, h2, h3, ?_⟩
  rcases h4 with q | ⟨q, -, E, ce, L, hX, -⟩
  · exact q
  · exact absurd hX (hx E s _)
theorem pcO_blind {as : List mV} (hKX : ∀ s U : State, s.WarmedH U.vm → KX s → KX U) : FrameBlind (pcO D KX as h) := fun a U g mk q => ⟨q.1, q.2.1, KF.warm hKX (State.WarmedH.refl U) q.2.2⟩
theorem pcO_at {as : List mV} (hKX : ∀ s U : State, s.WarmedH U.vm → KX s → KX U) (hr : Rel D h H) (hK : KF D KX s) : ∀ U : State, U.heap = H → s.WarmedH U.vm → pcO D KX as h (as.map toV).toArray U := fun U hU hW => ⟨rfl, by rw [hU]; exact hr, KF.warm hKX hW hK⟩
/-- what a call of method x from here rests on -/
theorem cb_of {kk i mc ms n : Nat} (hC : Cx D KX k p l s m args meth c) (hk : kk < 162) (hne : kk ≠ 161) (h0 : mHh kk = []) (hd : 0 < d) (hR : Rm d R) (hn : n = mNa kk - (if mSt kk then 0 else 1)) (hl : (Cond.methodLink (RRc (mC k)) i (mY kk)).before args s = true) :
    CallB R s args (RRc (mC k)) i (mY kk) (mB kk) (mL kk) (mR kk) (cwd kk :: WS) (rmO (d - 1) mc ms) mc ms n := by
  have hcw : cwd kk = .code (mY kk) (mB kk) (mL kk) (mR kk) := if_pos h0
  have hts := hC.2.2.2.2.1
  have h20 : mL kk ≤ 20 := (okM6 kk hk).resolve_left hne
  have hmem : Cond.code (mY kk) (mB kk) (mL kk) (mR kk) ∈ cwd kk :: WS := by rw [hcw]; exact List.mem_cons_self
  have hin : Cond.code (mY kk) (mB kk) (mL kk) (mR kk) ∈ WS := by rw [← hcw]; exact cwd_ws hk hne
  refine ⟨rfl, rfl, ?_, ?_, pay_in hts (cwd_good hk hne), hmem, hts _ hin, hC.ws ((okM9 kk hk).resolve_left hne) rfl, ⟨(okM2 kk hk).resolve_left hne, (okM3 kk hk).resolve_left hne⟩, fun sig h => ?_, hl⟩
  · exact ar2 hd hR.1
  · show 8 + (mL kk + 11) + ((d - 1 + 1) * 80 + 400) ≤ R.locals
    have e : d - 1 + 1 = d := Nat.sub_add_cancel hd
    rw [e]
    exact ar1 h20 hR.2
  · have h2 := (okM4 kk hk).resolve_left hne
    rw [h] at h2
    rw [hn]
    exact (Option.some.inj h2).symm
theorem ret_go {kk mc ms rp : Nat} {V0 : List Value} {r : List mV} {v' : Option mV} {h' : mH} {t T T' : State} {L : List Loc} (hw : simP D KX d k nx ls (v'.toList ++ r) h' (bc - mc) (bs - ms) Q X) (hn : nx % 100000 = rp + 3) (hmc : mc ≤ bc) (hms : ms ≤ bs)
    (hC : Cx D KX k p l s m args meth c) (hrel : Rel D h' t.heap) (hL : okL ls LS (mL k)) (hS : okS r) (hv : ∀ z, v' = some z → okV z ∧ (toV z).category = 1) (hR : Rm d R) (hbc : cells + bc ≤ R.cells) (hbs : slots + bs ≤ R.slots) (hlo : ∀ z ∈ locs, dB D ≤ z.base) (hLf : ∀ q ∈ L, Ao D q.base)
    (X' : Stand p l e R s m args below meth c T' (locs ++ L) (cells + mc) (slots + ms)) (e1 : T'.heap = t.heap) (st : Goes p e below T (F0 m rp LS V0) T' { F0 m rp LS V0 with pc := rp + 3, stack := (v'.map toV).toList ++ r.map toV }) :
    ∃ t2, Steps p.tables e below (T.setTop (F0 m rp LS V0)) t2 ∧ vx_MQ below (qQ D Q) (qX D X) args s R.cells R.slots (Ao D) t2 := by
  have hst : (v'.toList ++ r).map toV = (v'.map toV).toList ++ r.map toV := by cases v' <;> simp
  have hS' : okS (v'.toList ++ r) := by
    cases v' with
    | none => exact hS
    | some z => exact okS_c (hv z rfl).1 hS
  obtain ⟨t2, u1, u2⟩ := go hw hn hst hC hrel hL hS' hR (by omega) (by omega) (fun z hz => (List.mem_append.mp hz).elim (hlo z) (fun q => hLf z q)) T' e1 X'
  exact ⟨t2, st t2 u1, u2⟩
/-- a call that can't throw -/
theorem run_go {mc ms rp : Nat} {V0 : List Value} {r : List mV} {Qc : mQ} {Xc : mX} {a : Array Value} (hrun : vx_Run p l e R s m args below meth c H locs cells slots mc ms (F0 m rp LS V0) (r.map toV) (qQ D Qc a) (qX D Xc) (Ao D)) (hQ : ∀ v h', Qc v h' → simP D KX d k nx ls (v.toList ++ r) h' (bc - mc) (bs - ms) Q X) (hX : ∀ x h', ¬ Xc x h') (hn : nx % 100000 = rp + 3) (hmc : mc ≤ bc) (hms : ms ≤ bs)
    (hC : Cx D KX k p l s m args meth c) (hL : okL ls LS (mL k)) (hS : okS r) (hR : Rm d R) (hbc : cells + bc ≤ R.cells) (hbs : slots + bs ≤ R.slots) (hlo : ∀ z ∈ locs, dB D ≤ z.base) :
    W p l e R s m args below meth c H locs cells slots (vx_MQ below (qQ D Q) (qX D X) args s R.cells R.slots (Ao D)) (F0 m rp LS V0) := by
  intro T hT X9
  rcases hrun T hT X9 with ⟨v, st₀, t, T', L, h0, X', hLf, e1, e2, ⟨v', h', hv, hq, hrel, hokv⟩, st⟩ | ⟨q, st₀, t, T', L, E, ce, h0, X', hLf, e1, e2, ⟨x', h', -, -, hx, -⟩, -⟩
  · have hv : v = v'.map toV := by injection hv
    subst hv
    exact ret_go (kk := 0) (hQ v' h' hq) hn hmc hms hC hrel hL hS hokv hR hbc hbs hlo hLf X' e1 st
  · exact absurd hx (hX x' h')
theorem run_go9 {mc ms rp : Nat} {V0 : List Value} {r : List mV} {Qc : mQ} {a : Array Value} (hrun : va_Run p l e R s m args below meth c H locs cells slots mc ms (F0 m rp LS V0) (r.map toV) (qQ D Qc a) (Ao D)) (hQ : ∀ v h', Qc v h' → simP D KX d k nx ls (v.toList ++ r) h' (bc - mc) (bs - ms) Q X) (hn : nx % 100000 = rp + 3) (hmc : mc ≤ bc) (hms : ms ≤ bs)
    (hC : Cx D KX k p l s m args meth c) (hL : okL ls LS (mL k)) (hS : okS r) (hR : Rm d R) (hbc : cells + bc ≤ R.cells) (hbs : slots + bs ≤ R.slots) (hlo : ∀ z ∈ locs, dB D ≤ z.base) :
    W p l e R s m args below meth c H locs cells slots (vx_MQ below (qQ D Q) (qX D X) args s R.cells R.slots (Ao D)) (F0 m rp LS V0) := by
  intro T hT X9
  obtain ⟨v, st₀, t, T', L, h0, X', hLf, e1, e2, ⟨v', h', hv, hq, hrel, hokv⟩, st⟩ := hrun T hT X9
  have hv : v = v'.map toV := by injection hv
  subst hv
  exact ret_go (kk := 0) (hQ v' h' hq) hn hmc hms hC hrel hL hS hokv hR hbc hbs hlo hLf X' e1 st
theorem catsR {r : List mV} (h8 : cats r ≤ 8) {rp : Nat} {V0 : List Value} : 2 * (F0 m rp LS V0).monitorRoom + ((r.map toV).map fun v => v.category).sum ≤ 8 := by
  rw [cats_sum]
  show 2 * 0 + cats r ≤ 8
  omega
theorem okS_rev {as r : List mV} (h : okS (as.reverse ++ r)) : (∀ v ∈ as, okV v) ∧ okS r := ⟨fun v hv => h v (List.mem_append_left _ (List.mem_reverse.mpr hv)), fun v hv => h v (List.mem_append_right _ hv)⟩
theorem si_static {i na mc ms mx : Nat} (hKX : ∀ s U : State, s.WarmedH U.vm → KX s → KX U) (hnl : x ≠ 161) (ho : okE k pc (.invokestatic i, nx, x, [na, mc, ms, mx]) = true) (hw : wpi (dG D) (simP D KX) (.invokestatic i, nx, x, [na, mc, ms, mx]) d k pc ls st h bc bs Q X) : simP D KX d k pc ls st h bc bs Q X := by
  intro p l e R s m args below meth c H locs cells slots LS hC hr hL hS hR hbc hbs hlo
  obtain ⟨hd, hn⟩ := okE_dec ho (by simp [ilen])
  unfold okE at ho
  simp only [okC, Bool.and_eq_true, Bool.or_eq_true, decide_eq_true_eq] at ho
  obtain ⟨-, ⟨⟨⟨⟨⟨hk, hna⟩, hmk⟩, hmx⟩, hst⟩, hl⟩⟩ := ho
  simp only [wpi] at hw
  split at hw
  · rename_i as r hp
    obtain ⟨⟨h8, hd0, hmc, hms⟩, Qc, Xc, hs, hQ, hX⟩ := hw
    obtain ⟨pre, q1, q2, q3, q4⟩ := popN_spec _ _ _ _ _ hp
    rw [List.append_nil] at q1
    subst q1
    subst q2
    obtain ⟨hoA, hoR⟩ := okS_rev hS
    have hne : x ≠ 161 := fun q => hnl q
    have hok : ∀ v ∈ as, okV v ∧ (toV v).category = 1 := fun v hv => ⟨hoA v hv, q4 v hv⟩
    subst hmx
    have hm := met_of (l := l) hC.2.2.2.2.2.2.2.2.2.1 hk hne (by omega) hok hs
    have hxx : ∀ x h', ¬ Xc x h' := fun x h' q => hX x h' q
    have hstk : (as.reverse ++ r).map toV = (as.map toV).reverse ++ r.map toV := by simp
    have hlen : (as.map toV).length = mNa x := by rw [List.length_map, q3, hna]
    rw [hstk]
    by_cases h0 : mHh x = []
    · refine run_go (vx_runS (As := as.map toV) ⟨hC.1, hC.2.1, hC.2.2.1, hC.2.2.2.1, hC.2.2.2.2.1⟩ hm ⟨cb_of hC hk hne h0 hd0 hR (n := mNa x) (by rw [hst]; rfl) (hC.ws hl rfl), hC.ws (by have := (okM8 x hk).resolve_left hne; rw [hst] at this; exact this) rfl⟩ ⟨pcO_blind hKX, pcO_at hKX hr hC.kf⟩ rfl hlen hL.2.1.1 rfl (catsR h8) hd ⟨by omega, by omega⟩) hQ hxx hn hmc hms hC hL hoR hR hbc hbs hlo
    · have hcw : cwd x = .codeWith (mY x) (mB x) (mL x) (mR x) (mHh x) := if_neg h0
      have hts := hC.2.2.2.2.1
      have h20 : mL x ≤ 20 := (okM6 x hk).resolve_left hne
      have hin : Cond.codeWith (mY x) (mB x) (mL x) (mR x) (mHh x) ∈ WS := by rw [← hcw]; exact cwd_ws hk hne
      refine run_go (vx_runSX (hh := mHh x) (bytes := mB x) (maxL := mL x) (ret := mR x) (As := as.map toV) (n := mNa x) ⟨hC.1, hC.2.1, hC.2.2.1, hC.2.2.2.1, hC.2.2.2.2.1⟩ hm ⟨⟨rfl, rfl, ?_, ?_, pay_in hts (cwd_good hk hne), by rw [hcw]; exact List.mem_cons_self⟩, hts _ hin, hC.ws ((okM9 x hk).resolve_left hne) rfl, ⟨(okM2 x hk).resolve_left hne, (okM3 x hk).resolve_left hne⟩, fun sig h => ?_, hC.ws hl rfl, hC.ws (by have := (okM8 x hk).resolve_left hne; rw [hst] at this; exact this) rfl⟩ ⟨pcO_blind hKX, pcO_at hKX hr hC.kf⟩ rfl hlen hL.2.1.1 rfl (catsR h8) hd ⟨by omega, by omega⟩) hQ hxx hn hmc hms hC hL hoR hR hbc hbs hlo
      · exact ar2 hd0 hR.1
      · show 8 + (mL x + 11) + ((d - 1 + 1) * 80 + 400) ≤ R.locals
        have e : d - 1 + 1 = d := Nat.sub_add_cancel hd0
        rw [e]
        exact ar1 h20 hR.2
      · have h2 := (okM4 x hk).resolve_left hne
        rw [h, hst] at h2
        exact (Option.some.inj h2).symm
  · exact hw.elim
end Sim
