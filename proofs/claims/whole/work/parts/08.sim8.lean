theorem c_own : ∀ k, k < 162 → mSt k = false → mC k < 13 := by decide +kernel
theorem c_init : ∀ k, k < 162 → (mY k).name = "<init>" → mR k = none := by decide +kernel
section Sim
variable {D : mD} {KX : State → Prop} {d k pc nx x : Nat} {y : List Nat} {ls : List (Option mV)} {st : List mV} {h : mH} {bc bs : Nat} {Q : mQ} {X : mX}
variable {p : Program} {l : Launch} {e : Env} {R : Room} {s : State} {m : MethodId} {args : Array Value} {below : List Frame} {meth : Method} {c : Code} {H : Heap} {locs : List Loc} {cells slots : Nat} {LS : Array Slot}
/-- the receiver is an object of the class -/
theorem rcv_at {t : Nat} {as : List mV} (h13 : t < 13) (hr : Rel D h H) (hK : KF D KX s) (hc : rcv (dG D) (t + 1) as h) : ∃ (a : Nat) (As : List mV), as = .inr (.inl (some a)) :: As ∧ ∃ cellB : Cell, H[a]? = some cellB ∧ cellB.vm.isStatics = false ∧ s.vm.findClass (RRc t) = some cellB.cls := by
  unfold rcv at hc
  split at hc
  · rename_i a As
    refine ⟨a, As, rfl, ?_⟩
    by_cases h12 : t = 12
    · subst h12
      rw [if_pos rfl] at hc
      obtain ⟨i, h1, h2, rfl⟩ := hc
      obtain ⟨cell, g1, g2, g3, -⟩ := (hK.2.2.2.2.2.2.2.2.2.1 i h1 h2).1.kept (kept_D hr)
      exact ⟨cell, g1, g2, g3⟩
    · rw [if_neg (by omega)] at hc
      split at hc
      · rename_i t' n ht
        have e : t' = t := by omega
        subst e
        obtain ⟨-, -, cell, c1, c2, c3, -⟩ := hr.own hK ht (by omega)
        exact ⟨cell, c1, by rw [c3]; rfl, by rw [c2]; exact (hK.1 t' (by omega)).2.1⟩
      · exact hc.elim
  · exact hc.elim
theorem si_special {i na mc ms mx rt : Nat} (hKX : ∀ s U : State, s.WarmedH U.vm → KX s → KX U) (ho : okE k pc (.invokespecial i, nx, x, [na, mc, ms, mx, rt]) = true) (hw : wpi (dG D) (simP D KX) (.invokespecial i, nx, x, [na, mc, ms, mx, rt]) d k pc ls st h bc bs Q X) : simP D KX d k pc ls st h bc bs Q X := by
  intro p l e R s m args below meth c H locs cells slots LS hC hr hL hS hR hbc hbs hlo
  obtain ⟨hd, hn⟩ := okE_dec ho (by simp [ilen])
  unfold okE at ho
  simp only [okC, Bool.and_eq_true, Bool.or_eq_true, decide_eq_true_eq] at ho
  obtain ⟨-, ⟨⟨⟨⟨⟨⟨⟨hk, hna⟩, hmk⟩, hmx⟩, hrt⟩, hst⟩, hnm⟩, h0⟩, hl⟩ := ho
  simp only [wpi] at hw
  split at hw
  · rename_i as r hp
    obtain ⟨⟨h8, hd0, hmc, hms⟩, hrc, Qc, Xc, hs, hQ, hX⟩ := hw
    obtain ⟨pre, q1, q2, q3, q4⟩ := popN_spec _ _ _ _ _ hp
    rw [List.append_nil] at q1
    subst q1
    subst q2
    obtain ⟨hoA, hoR⟩ := okS_rev hS
    have hok : ∀ v ∈ as, okV v ∧ (toV v).category = 1 := fun v hv => ⟨hoA v hv, q4 v hv⟩
    subst hmx
    subst hrt
    have hne : x ≠ 161 := fun q => by rw [q] at hst; exact absurd hst (by decide)
    have hm := met_of (l := l) hC.2.2.2.2.2.2.2.2.2.1 hk hne (by omega) hok hs
    have h13 : mC x < 13 := c_own x hk hst
    obtain ⟨a, As, rfl, cellB, b1, b2, b3⟩ := rcv_at h13 hr hC.kf hrc
    have hstk : ((.inr (.inl (some a)) :: As).reverse ++ r).map toV = (As.map toV).reverse ++ Value.ref a :: r.map toV := by
      show _ = (As.map toV).reverse ++ toV (.inr (.inl (some a))) :: r.map toV
      simp
    have hlen : (As.map toV).length = mNa x - 1 := by
      rw [List.length_map]
      have : (As.length + 1) = na := q3
      omega
    have hcls : (mY x).cls = RRc (mC x) := (okM0 x hk).resolve_left hne
    have him : (Cond.instanceMethod (mY x)).before args s = true := hC.ws (by have := (okM8 x hk).resolve_left hne; rw [hst] at this; exact this) rfl
    rw [hstk]
    have hxx : ∀ x h', ¬ Xc x h' := fun x h' q => hX x h' q
    have hm9 := met_vx hm (fun E u t q => by obtain ⟨x', h', -, -, hx, -⟩ := q; exact hxx x' h' hx)
    have hret : mR x = none := c_init x hk hnm
    have hcw : cwd x = .code (mY x) (mB x) (mL x) none := by rw [← hret]; exact if_pos h0
    rcases hl with hl | hl
    · have cb := cb_of (mc := mc) (ms := ms) (n := mNa x - 1) hC hk hne h0 hd0 hR (by rw [hst]; rfl) (hC.ws hl rfl)
      rw [hret] at cb
      exact run_go9 (va_runI (As := As.map toV) (b := a) ⟨hC.1, hC.2.1, hC.2.2.1, hC.2.2.2.1, hC.2.2.2.2.1⟩ hm9 ⟨cb, hnm, him⟩ ⟨pcO_blind hKX, pcO_at hKX hr hC.kf⟩ rfl hlen hL.2.1.1 rfl (catsR h8) hd ⟨by omega, by omega⟩) hQ hn hmc hms hC hL hoR hR hbc hbs hlo
    · have hts := hC.2.2.2.2.1
      have h20 : mL x ≤ 20 := (okM6 x hk).resolve_left hne
      have hin : Cond.code (mY x) (mB x) (mL x) none ∈ WS := by rw [← hcw]; exact cwd_ws hk hne
      have hnest := va_Nw.use (A := args) rfl (hC.kf.2.2.2.2.2.2.2.2.1 _ hl)
      refine run_go9 (va_runIN (bytes := mB x) (maxL := mL x) (host := RX10) (As := As.map toV) (b := a) (n := mNa x - 1) ⟨hC.1, hC.2.1, hC.2.2.1, hC.2.2.2.1, hC.2.2.2.2.1⟩ hm9 ⟨⟨⟨rfl, rfl, ?_, ?_, pay_in hts (cwd_good hk hne), by rw [hcw]; exact List.mem_cons_self⟩, hts _ hin, hC.ws ((okM9 x hk).resolve_left hne) rfl, ⟨(okM2 x hk).resolve_left hne, (okM3 x hk).resolve_left hne⟩, fun sig h => ?_, hnest⟩, hnm, him⟩ ⟨pcO_blind hKX, pcO_at hKX hr hC.kf⟩ rfl hlen hL.2.1.1 rfl (catsR h8) hd ⟨by omega, by omega⟩) hQ hn hmc hms hC hL hoR hR hbc hbs hlo
      · exact ar2 hd0 hR.1
      · show 8 + (mL x + 11) + ((d - 1 + 1) * 80 + 400) ≤ R.locals
        have e : d - 1 + 1 = d := Nat.sub_add_cancel hd0
        rw [e]
        exact ar1 h20 hR.2
      · have h2 := (okM4 x hk).resolve_left hne
        rw [h, hst] at h2
        exact (Option.some.inj h2).symm
  · exact hw.elim
/-- a thrown object, caught by the one row of the method's table -/
def CatchP (D : mD) (KX : State → Prop) : Prop := ∀ (k : Nat) (p : Program) (l : Launch) (e : Env) (R : Room) (s : State) (m : MethodId) (args : Array Value) (below : List Frame) (meth : Method) (c : Code) (H : Heap) (locs : List Loc) (cells slots : Nat) (LS : Array Slot) (Qs : State → Prop) (rp hs he hq ct x : Nat) (rest : List Value) (q : Addr) (ce : Cell),
  Cx D KX k p l s m args meth c → mHh k = [(hs, he, hq, ct)] → hs ≤ rp → rp < he → ct ≠ 0 → x < 3 → (Cond.classLink (RRc (mC k)) ct (eNm x)).before args s = true → H[q]? = some ce → ce.vm = .none → s.vm.findClass (eNm x) = some ce.cls →
  W p l e R s m args below meth c H locs cells slots Qs (F0 m hq LS [.ref q]) → vx_W p l e R s m args below meth c H locs cells slots Qs (F0 m rp LS rest) q
theorem run_goX {mc ms rp hs he hq ct hp x0 : Nat} {V0 : List Value} {r : List mV} {Qc : mQ} {Xc : mX} {a : Array Value} (hCt : CatchP D KX) (hrun : vx_Run p l e R s m args below meth c H locs cells slots mc ms (F0 m rp LS V0) (r.map toV) (qQ D Qc a) (qX D Xc) (Ao D)) (hQ : ∀ v h', Qc v h' → simP D KX d k nx ls (v.toList ++ r) h' (bc - mc) (bs - ms) Q X)
    (hX : ∀ x h', Xc x h' → x = x0 ∧ ∀ q, simP D KX d k hp ls [.inr (.inl (some q))] h' (bc - mc) (bs - ms) Q X) (hh : mHh k = [(hs, he, hq, ct)]) (h1 : hs ≤ rp) (h2 : rp < he) (h3 : ct ≠ 0) (h4 : hp % 100000 = hq) (hlk : (Cond.classLink (RRc (mC k)) ct (eNm x0)).before args s = true) (hn : nx % 100000 = rp + 3) (hmc : mc ≤ bc) (hms : ms ≤ bs)
    (hC : Cx D KX k p l s m args meth c) (hL : okL ls LS (mL k)) (hS : okS r) (hR : Rm d R) (hbc : cells + bc ≤ R.cells) (hbs : slots + bs ≤ R.slots) (hlo : ∀ z ∈ locs, dB D ≤ z.base) :
    W p l e R s m args below meth c H locs cells slots (vx_MQ below (qQ D Q) (qX D X) args s R.cells R.slots (Ao D)) (F0 m rp LS V0) := by
  intro T hT X9
  rcases hrun T hT X9 with ⟨v, st₀, t, T', L, h0, X', hLf, e1, e2, ⟨v', h', hv, hq9, hrel, hokv⟩, st⟩ | ⟨q, st₀, t, T', L, E, ce, h0, X', hLf, e1, e2, ⟨x', h', hx3, hE, hx, hrel⟩, hce, hcv, hcl, st⟩
  · have hv : v = v'.map toV := by injection hv
    subst hv
    exact ret_go (kk := 0) (hQ v' h' hq9) hn hmc hms hC hrel hL hS hokv hR hbc hbs hlo hLf X' e1 st
  · obtain ⟨rfl, hN⟩ := hX x' h' hx
    subst hE
    have hw := go (V := [.ref q]) (e := e) (below := below) (hN q) h4 rfl hC hrel hL (okS_c (v := .inr (.inl (some q))) trivial (fun z hz => nomatch hz)) hR (cells := cells + mc) (slots := slots + ms) (by omega) (by omega) (locs := locs ++ L) (fun z hz => (List.mem_append.mp hz).elim (hlo z) (fun q => hLf z q))
    obtain ⟨t2, u1, u2⟩ := hCt k p l e R s m args below meth c t.heap (locs ++ L) (cells + mc) (slots + ms) LS _ rp hs he hq ct x' (r.map toV) q ce hC hh h1 h2 h3 hx3 hlk hce hcv hcl hw T' e1 X'
    exact ⟨t2, st.trans u1, u2⟩
theorem si_virtual {i na mc ms mx rt e1 hp : Nat} (hKX : ∀ s U : State, s.WarmedH U.vm → KX s → KX U) (hCt : CatchP D KX) (ho : okE k pc (.invokevirtual i, nx, x, [na, mc, ms, mx, rt, e1, hp]) = true) (hw : wpi (dG D) (simP D KX) (.invokevirtual i, nx, x, [na, mc, ms, mx, rt, e1, hp]) d k pc ls st h bc bs Q X) : simP D KX d k pc ls st h bc bs Q X := by
  intro p l e R s m args below meth c H locs cells slots LS hC hr hL hS hR hbc hbs hlo
  obtain ⟨hd, hn⟩ := okE_dec ho (by simp [ilen])
  have hnr := hn
  unfold okE at ho
  simp only [okC, Bool.and_eq_true, Bool.or_eq_true, decide_eq_true_eq] at ho
  obtain ⟨-, ⟨⟨⟨⟨⟨⟨⟨⟨⟨hk, hna⟩, hmk⟩, hmx⟩, hrt⟩, hst⟩, hl⟩, hsel⟩, h0⟩, hhd⟩⟩ := ho
  simp only [wpi] at hw
  split at hw
  · rename_i as r hp
    obtain ⟨⟨h8, hd0, hmc, hms⟩, hrc, Qc, Xc, hs, hQ, hX⟩ := hw
    obtain ⟨pre, q1, q2, q3, q4⟩ := popN_spec _ _ _ _ _ hp
    rw [List.append_nil] at q1
    subst q1
    subst q2
    obtain ⟨hoA, hoR⟩ := okS_rev hS
    have hok : ∀ v ∈ as, okV v ∧ (toV v).category = 1 := fun v hv => ⟨hoA v hv, q4 v hv⟩
    subst hmx
    subst hrt
    have hne : x ≠ 161 := fun q => by rw [q] at hst; exact absurd hst (by decide)
    have hm := met_of (l := l) hC.2.2.2.2.2.2.2.2.2.1 hk hne (by omega) hok hs
    have h13 : mC x < 13 := c_own x hk hst
    obtain ⟨a, As, rfl, cellB, b1, b2, b3⟩ := rcv_at h13 hr hC.kf hrc
    have hstk : ((.inr (.inl (some a)) :: As).reverse ++ r).map toV = (As.map toV).reverse ++ Value.ref a :: r.map toV := by
      show _ = (As.map toV).reverse ++ toV (.inr (.inl (some a))) :: r.map toV
      simp
    have hlen : (As.map toV).length = mNa x - 1 := by
      rw [List.length_map]
      have : (As.length + 1) = na := q3
      omega
    have hcls : (mY x).cls = RRc (mC x) := (okM0 x hk).resolve_left hne
    have him : (Cond.instanceMethod (mY x)).before args s = true := hC.ws (by have := (okM8 x hk).resolve_left hne; rw [hst] at this; exact this) rfl
    rw [hstk]
    have hrun := vx_runV (e := e) (below := below) (H := H) (meth := meth) (locs := locs) (cells := cells) (slots := slots) (C := RRc (mC x)) (b := a) (As := As.map toV) (rest := r.map toV) (g := F0 m (pc % 100000) LS ((As.map toV).reverse ++ Value.ref a :: r.map toV)) ⟨hC.1, hC.2.1, hC.2.2.1, hC.2.2.2.1, hC.2.2.2.2.1⟩ hm ⟨cb_of (n := mNa x - 1) hC hk hne h0 hd0 hR (by rw [hst]; rfl) (hC.ws hl rfl), him, by rw [← hcls]; exact hC.ws hsel rfl⟩ ⟨pcO_blind hKX, ⟨cellB, b1, b2, b3⟩, pcO_at hKX hr hC.kf⟩ rfl hlen hL.2.1.1 rfl (catsR h8) hd ⟨by omega, by omega⟩
    cases hq : mHh k with
    | nil =>
      rw [hq] at hhd
      have he1 : e1 = 0 := by simpa using hhd
      subst he1
      exact run_go hrun hQ (fun x h' q => by have := (hX x h' q).1; omega) hn hmc hms hC hL hoR hR hbc hbs hlo
    | cons q0 qs =>
      obtain ⟨hs9, he9, hq9, ct⟩ := q0
      rw [hq] at hhd
      cases qs with
      | cons _ _ => exact absurd hhd (by simp)
      | nil =>
        simp only [Bool.and_eq_true, decide_eq_true_eq] at hhd
        obtain ⟨⟨⟨⟨⟨⟨g1, g2⟩, g3⟩, g4⟩, g5⟩, g6⟩, g7⟩ := hhd
        exact run_goX hCt hrun hQ (x0 := e1 - 1) (fun x h' q => ⟨by have := (hX x h' q).1; omega, (hX x h' q).2⟩) hq g1 g2 g7 g3.symm (hC.ws g4 rfl) hn hmc hms hC hL hoR hR hbc hbs hlo
  · exact hw.elim
/-- a throw of a new exception with a text -/
def ThrowP (D : mD) (KX : State → Prop) : Prop := ∀ (k pc i nx x d : Nat) (ls : List (Option mV)) (st : List mV) (h : mH) (bc bs : Nat) (Q : mQ) (X : mX),
  okE k pc (.new i, nx, x, []) = true → (1 ≤ bc ∧ 6 ≤ bs) → cats st ≤ 8 → (∀ z, hsz h ≤ z → X x (hgrow h z)) → simP D KX d k pc ls st h bc bs Q X
set_option maxHeartbeats 4000000 in
theorem sim_step (hKX : ∀ s U : State, s.WarmedH U.vm → KX s → KX U) (hCt : CatchP D KX) (hTh : ThrowP D KX) (hok : ∀ k pc e, mcode k pc = some e → okE k pc e = true) (hnl : ∀ k pc i nx x y, mcode k pc = some (.invokestatic i, nx, x, y) → x ≠ 161) (hw : wpE (dG D) (simP D KX) d k pc ls st h bc bs Q X) : simP D KX d k pc ls st h bc bs Q X := by
  unfold wpE at hw
  cases hm : mcode k pc with
  | none => rw [hm] at hw; exact hw.elim
  | some e9 =>
    rw [hm] at hw
    obtain ⟨i, nx, x, y⟩ := e9
    have ho := hok k pc _ hm
    dsimp only at hw
    cases i with
    | iconst v => exact si_iconst ho hw
    | bipush v => exact si_bipush ho hw
    | sipush v => exact si_sipush ho hw
    | ldc i => exact si_ldc ho hw
    | ldc_w i =>
      match y, ho, hw with
      | [v], ho, hw => exact si_ldc_w ho (by
          have hx : x = 0 := by unfold okE at ho; simp only [Bool.and_eq_true, decide_eq_true_eq] at ho; exact ho.2.1.1
          subst hx; exact hw)
      | [], ho, hw => simp [wpi] at hw
      | _ :: _ :: _, ho, hw => simp [wpi] at hw
    | aconst_null => exact si_aconst_null ho hw
    | iload i => exact si_iload ho hw
    | iload_n i => exact si_iload_n ho hw
    | aload i => exact si_aload ho hw
    | aload_n i => exact si_aload_n ho hw
    | istore i => exact si_istore ho hw
    | istore_n i => exact si_istore_n ho hw
    | astore i => exact si_astore ho hw
    | astore_n i => exact si_astore_n ho hw
    | iinc i v => exact si_iinc ho hw
    | iadd => exact si_iadd ho hw
    | isub => exact si_isub ho hw
    | imul => exact si_imul ho hw
    | idiv => exact si_idiv ho hw
    | ineg => exact si_ineg ho hw
    | iand => exact si_iand ho hw
    | ior => exact si_ior ho hw
    | ishl => exact si_ishl ho hw
    | ishr => exact si_ishr ho hw
    | iushr => exact si_iushr ho hw
    | i2c => exact si_i2c ho hw
    | i2l => exact si_i2l ho hw
    | lcmp => exact si_lcmp ho hw
    | dup => exact si_dup ho hw
    | dup2 => exact si_dup2 ho hw
    | pop => exact si_pop ho hw
    | goto o => exact si_goto ho hw
    | ifCond cn o => exact si_if ho hw
    | if_icmp cn o => exact si_icmp ho hw
    | if_acmp cn o => exact si_acmp ho hw
    | ifnull o => exact si_ifnull ho hw
    | ifnonnull o => exact si_ifnonnull ho hw
    | tableswitch df lo hi os => exact si_tableswitch ho hw
    | getfield i =>
      match y, ho, hw with
      | [j, kd, n], ho, hw => exact si_getfield ho hw
      | [], ho, hw => simp [wpi] at hw
      | [_], ho, hw => exact si_getfS ho hw
      | [_, _], ho, hw => simp [wpi] at hw
      | _ :: _ :: _ :: _ :: _, ho, hw => simp [wpi] at hw
    | putfield i =>
      match y, ho, hw with
      | [j, kd, n], ho, hw => exact si_putfield ho hw
      | [], ho, hw => simp [wpi] at hw
      | [_], ho, hw => simp [wpi] at hw
      | [_, _], ho, hw => simp [wpi] at hw
      | _ :: _ :: _ :: _ :: _, ho, hw => simp [wpi] at hw
    | getstatic i => exact si_getstatic ho hw
    | arraylength =>
      match y, ho, hw with
      | [], ho, hw => exact si_arraylength ho hw
      | [_], ho, hw => exact si_alenS ho hw
      | _ :: _ :: _, ho, hw => simp [wpi] at hw
    | iaload => exact si_iaload ho hw
    | caload => exact si_caload ho hw
    | baload =>
      match y, ho, hw with
      | [], ho, hw => exact si_baload ho hw
      | [_], ho, hw => exact si_baldS ho hw
      | _ :: _ :: _, ho, hw => simp [wpi] at hw
    | laload => exact si_laload ho hw
    | aaload => exact si_aaload ho hw
    | iastore => exact si_iastore ho hw
    | castore => exact si_castore ho hw
    | bastore => exact si_bastore ho hw
    | lastore => exact si_lastore ho hw
    | aastore => exact si_aastore ho hw
    | newarray t => exact si_newarray ho hw
    | anewarray i => exact si_anewarray ho hw
    | new i =>
      match y, ho, hw with
      | [n], ho, hw => exact si_new ho hw
      | [], ho, hw => exact hTh k pc i nx x d ls st h bc bs Q X ho hw.1 hw.2.1 hw.2.2
      | _ :: _ :: _, ho, hw => simp [wpi] at hw
    | invokespecial i =>
      match y, ho, hw with
      | [], ho, hw =>
        have hx : x = 1000 := by unfold okE at ho; simp only [Bool.and_eq_true, decide_eq_true_eq] at ho; exact ho.2.1
        subst hx
        exact si_objinit ho hw
      | [na, mc, ms, mx, rt], ho, hw => exact si_special hKX ho hw
      | [_], ho, hw => simp [wpi] at hw
      | [_, _], ho, hw => simp [wpi] at hw
      | [_, _, _], ho, hw => simp [wpi] at hw
      | [_, _, _, _], ho, hw => simp [wpi] at hw
      | _ :: _ :: _ :: _ :: _ :: _ :: _, ho, hw => simp [wpi] at hw
    | invokestatic i =>
      match y, ho, hw, hm with
      | [], ho, hw, hm =>
        have hx : x = 1001 ∨ x = 1002 := by
          have ho2 := ho
          unfold okE at ho2
          simp only [Bool.and_eq_true, Bool.or_eq_true, decide_eq_true_eq] at ho2
          exact ho2.2.elim (fun q => Or.inl q.1) (fun q => Or.inr q.1)
        rcases hx with rfl | rfl
        · exact si_arraycopy ho hw
        · exact si_mmax ho hw
      | [na, mc, ms, mx], ho, hw, hm => exact si_static hKX (hnl _ _ _ _ _ _ hm) ho hw
      | [_], ho, hw, hm => simp [wpi] at hw
      | [_, _], ho, hw, hm => simp [wpi] at hw
      | [_, _, _], ho, hw, hm => simp [wpi] at hw
      | _ :: _ :: _ :: _ :: _ :: _, ho, hw, hm => simp [wpi] at hw
    | invokevirtual i =>
      match y, ho, hw with
      | [na, mc, ms, mx, rt, e1, hp], ho, hw => exact si_virtual hKX hCt ho hw
      | [], ho, hw => simp [wpi] at hw
      | [_], ho, hw => simp [wpi] at hw
      | [_, _], ho, hw => simp [wpi] at hw
      | [_, _, _], ho, hw => simp [wpi] at hw
      | [_, _, _, _], ho, hw => simp [wpi] at hw
      | [_, _, _, _, _], ho, hw => simp [wpi] at hw
      | [_, _, _, _, _, _], ho, hw => simp [wpi] at hw
      | _ :: _ :: _ :: _ :: _ :: _ :: _ :: _ :: _, ho, hw => simp [wpi] at hw
    | ireturn => exact si_ireturn ho hw
    | areturn => exact si_areturn ho hw
    | return_ => exact si_return ho hw
    | _ => simp [wpi] at hw
/-- THE JVM DOES WHAT THE SMALL MACHINE SAYS -/
theorem sim (hKX : ∀ s U : State, s.WarmedH U.vm → KX s → KX U) (hCt : CatchP D KX) (hTh : ThrowP D KX) (hok : ∀ k pc e, mcode k pc = some e → okE k pc e = true) (hnl : ∀ k pc i nx x y, mcode k pc = some (.invokestatic i, nx, x, y) → x ≠ 161) (hw : wp (dG D) d k pc ls st h bc bs Q X) : simP D KX d k pc ls st h bc bs Q X :=
  hw (simP D KX) (fun _ _ _ _ _ _ _ _ _ _ hE => sim_step hKX hCt hTh hok hnl hE)
end Sim
