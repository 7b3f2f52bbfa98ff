/-! THE JVM DOES WHAT THE SMALL MACHINE SAYS: an instruction each -/
def qQ (D : mD) (Q : mQ) : Array Value → State → Outcome → State → Prop := fun _ _ o t => ∃ (v : Option mV) (h' : mH), o = .returned (v.map toV) ∧ Q v h' ∧ Rel D h' t.heap ∧ ∀ z, v = some z → okV z ∧ (toV z).category = 1
def qX (D : mD) (X : mX) : String → State → State → Prop := fun E _ t => ∃ (x : Nat) (h' : mH), x < 3 ∧ E = eNm x ∧ X x h' ∧ Rel D h' t.heap
def Rm (d : Nat) (R : Room) : Prop := d + 10 ≤ R.frames ∧ (d + 1) * 80 + 400 ≤ R.locals
def Cx (D : mD) (KX : State → Prop) (k : Nat) (p : Program) (l : Launch) (s : State) (m : MethodId) (args : Array Value) (meth : Method) (c : Code) : Prop :=
  p.tables.exec = Jvm.exec ∧ c.code = mB k ∧ c.maxLocals = mL k ∧ s.vm.findClass (RRc (mC k)) = some m.cls ∧ (∀ w ∈ WS, w.before args s = true) ∧ meth.locks = false ∧ meth.sig.returnType = mR k ∧ ((mY k).name = "<init>" → meth.name = "<init>") ∧ (k = 161 ∨ c.exceptionTable.toList = tableOf (mHh k)) ∧ l.stackTraces = false ∧ KF D KX s ∧ k < 162 ∧ dB D ≤ s.heap.size ∧ ∀ q, q < dB D → s.heap[q]? = (dH D)[q]?
def simP (D : mD) (KX : State → Prop) : mN := fun d k pc ls st h bc bs Q X =>
  ∀ (p : Program) (l : Launch) (e : Env) (R : Room) (s : State) (m : MethodId) (args : Array Value) (below : List Frame) (meth : Method) (c : Code) (H : Heap) (locs : List Loc) (cells slots : Nat) (LS : Array Slot),
    Cx D KX k p l s m args meth c → Rel D h H → okL ls LS (mL k) → okS st → Rm d R → cells + bc ≤ R.cells → slots + bs ≤ R.slots → (∀ z ∈ locs, dB D ≤ z.base) →
    W p l e R s m args below meth c H locs cells slots (vx_MQ below (qQ D Q) (qX D X) args s R.cells R.slots (Ao D)) (F0 m (pc % 100000) LS (st.map toV))
theorem okE_dec {k pc : Nat} {i : Instr} {nx x : Nat} {y : List Nat} (h : okE k pc (i, nx, x, y) = true) (hl : ilen i ≠ 0) : decode (mB k) (pc % 100000) = .ok (i, ilen i) ∧ nx % 100000 = pc % 100000 + ilen i := by
  unfold okE at h
  simp only [Bool.and_eq_true, Bool.or_eq_true, decide_eq_true_eq] at h
  obtain ⟨⟨h1, h2⟩, -⟩ := h
  have h3 : nx % 100000 = pc % 100000 + ilen i := h2.resolve_left hl
  refine ⟨?_, h3⟩
  rw [h1, h3, Nat.add_sub_cancel_left]
section Sim
variable {D : mD} {KX : State → Prop} {d k pc nx x : Nat} {y : List Nat} {ls : List (Option mV)} {st : List mV} {h : mH} {bc bs : Nat} {Q : mQ} {X : mX}
variable {p : Program} {l : Launch} {e : Env} {R : Room} {s : State} {m : MethodId} {args : Array Value} {below : List Frame} {meth : Method} {c : Code} {H : Heap} {locs : List Loc} {cells slots : Nat} {LS : Array Slot}
theorem go {rp : Nat} {V : List Value} (hw : simP D KX d k nx ls st h bc bs Q X) (hn : nx % 100000 = rp) (hV : st.map toV = V) (hC : Cx D KX k p l s m args meth c) (hr : Rel D h H) (hL : okL ls LS (mL k)) (hS : okS st) (hR : Rm d R) (hbc : cells + bc ≤ R.cells) (hbs : slots + bs ≤ R.slots) (hlo : ∀ z ∈ locs, dB D ≤ z.base) :
    W p l e R s m args below meth c H locs cells slots (vx_MQ below (qQ D Q) (qX D X) args s R.cells R.slots (Ao D)) (F0 m rp LS V) := by
  subst hn; subst hV
  exact hw p l e R s m args below meth c H locs cells slots LS hC hr hL hS hR hbc hbs hlo
theorem okS_c {v : mV} {st : List mV} (hv : okV v) (h : okS st) : okS (v :: st) := fun w hw => (List.mem_cons.mp hw).elim (fun e => e ▸ hv) (h w)
theorem okS_t {v : mV} {st : List mV} (h : okS (v :: st)) : okS st := fun w hw => h w (List.mem_cons_of_mem _ hw)
theorem okS_h {v : mV} {st : List mV} (h : okS (v :: st)) : okV v := h v List.mem_cons_self

theorem inRb_ok {v : Int} (h : inRb v = true) : inR v := by
  simp only [inRb, Bool.and_eq_true, decide_eq_true_eq] at h
  exact h
theorem si_iconst {v : Int} (ho : okE k pc (.iconst v, nx, x, y) = true) (hw : wpi (dG D) (simP D KX) (.iconst v, nx, x, y) d k pc ls st h bc bs Q X) : simP D KX d k pc ls st h bc bs Q X := by
  intro p l e R s m args below meth c H locs cells slots LS hC hr hL hS hR hbc hbs hlo
  obtain ⟨hd, hn⟩ := okE_dec ho (by simp [ilen])
  have hv : inR v := inRb_ok (by unfold okE at ho; simp only [Bool.and_eq_true] at ho; exact ho.2)
  exact lv_iconst hC.1 hC.2.1 hd rfl (go hw hn rfl hC hr hL (okS_c hv hS) hR hbc hbs hlo)
theorem si_bipush {v : Int} (ho : okE k pc (.bipush v, nx, x, y) = true) (hw : wpi (dG D) (simP D KX) (.bipush v, nx, x, y) d k pc ls st h bc bs Q X) : simP D KX d k pc ls st h bc bs Q X := by
  intro p l e R s m args below meth c H locs cells slots LS hC hr hL hS hR hbc hbs hlo
  obtain ⟨hd, hn⟩ := okE_dec ho (by simp [ilen])
  have hv := (show inRb v = true ∧ _ from by unfold okE at ho; simp only [Bool.and_eq_true, decide_eq_true_eq] at ho; exact ho.2)
  exact lv_bipush hC.1 hC.2.1 hd hv.2 (go hw hn rfl hC hr hL (okS_c (inRb_ok hv.1) hS) hR hbc hbs hlo)
theorem si_sipush {v : Int} (ho : okE k pc (.sipush v, nx, x, y) = true) (hw : wpi (dG D) (simP D KX) (.sipush v, nx, x, y) d k pc ls st h bc bs Q X) : simP D KX d k pc ls st h bc bs Q X := by
  intro p l e R s m args below meth c H locs cells slots LS hC hr hL hS hR hbc hbs hlo
  obtain ⟨hd, hn⟩ := okE_dec ho (by simp [ilen])
  have hv := (show inRb v = true ∧ _ from by unfold okE at ho; simp only [Bool.and_eq_true, decide_eq_true_eq] at ho; exact ho.2)
  exact lv_sipush hC.1 hC.2.1 hd hv.2 (go hw hn rfl hC hr hL (okS_c (inRb_ok hv.1) hS) hR hbc hbs hlo)
theorem si_aconst_null (ho : okE k pc (.aconst_null, nx, x, y) = true) (hw : wpi (dG D) (simP D KX) (.aconst_null, nx, x, y) d k pc ls st h bc bs Q X) : simP D KX d k pc ls st h bc bs Q X := by
  intro p l e R s m args below meth c H locs cells slots LS hC hr hL hS hR hbc hbs hlo
  obtain ⟨hd, hn⟩ := okE_dec ho (by simp [ilen])
  exact lv_null hC.1 hC.2.1 hd (go hw hn rfl hC hr hL (okS_c trivial hS) hR hbc hbs hlo)
theorem si_iload {i : Nat} (ho : okE k pc (.iload i, nx, x, y) = true) (hw : wpi (dG D) (simP D KX) (.iload i, nx, x, y) d k pc ls st h bc bs Q X) : simP D KX d k pc ls st h bc bs Q X := by
  intro p l e R s m args below meth c H locs cells slots LS hC hr hL hS hR hbc hbs hlo
  obtain ⟨hd, hn⟩ := okE_dec ho (by simp [ilen])
  have hi : i = x := by unfold okE at ho; simp only [Bool.and_eq_true, decide_eq_true_eq] at ho; exact ho.2
  unfold wpi at hw
  dsimp only at hw
  split at hw
  · rename_i z hg
    have hv := hL.get hg
    have hok := (hL.2.2 _ _ hg).1
    subst hi
    exact lv_iload hC.1 hC.2.1 hd hv (go hw hn rfl hC hr hL (okS_c hok hS) hR hbc hbs hlo)
  · exact hw.elim
theorem si_iload_n {i : Fin 4} (ho : okE k pc (.iload_n i, nx, x, y) = true) (hw : wpi (dG D) (simP D KX) (.iload_n i, nx, x, y) d k pc ls st h bc bs Q X) : simP D KX d k pc ls st h bc bs Q X := by
  intro p l e R s m args below meth c H locs cells slots LS hC hr hL hS hR hbc hbs hlo
  obtain ⟨hd, hn⟩ := okE_dec ho (by simp [ilen])
  have hi : (i : Nat) = x := by unfold okE at ho; simp only [Bool.and_eq_true, decide_eq_true_eq] at ho; exact ho.2
  unfold wpi at hw
  dsimp only at hw
  split at hw
  · rename_i z hg
    have hv := hL.get hg
    have hok := (hL.2.2 _ _ hg).1
    exact lv_iload_n hC.1 hC.2.1 hd hi hv (go hw hn rfl hC hr hL (okS_c hok hS) hR hbc hbs hlo)
  · exact hw.elim
theorem si_aload {i : Nat} (ho : okE k pc (.aload i, nx, x, y) = true) (hw : wpi (dG D) (simP D KX) (.aload i, nx, x, y) d k pc ls st h bc bs Q X) : simP D KX d k pc ls st h bc bs Q X := by
  intro p l e R s m args below meth c H locs cells slots LS hC hr hL hS hR hbc hbs hlo
  obtain ⟨hd, hn⟩ := okE_dec ho (by simp [ilen])
  have hi : i = x := by unfold okE at ho; simp only [Bool.and_eq_true, decide_eq_true_eq] at ho; exact ho.2
  unfold wpi at hw
  dsimp only at hw
  split at hw
  · rename_i r hg
    have hv := hL.get hg
    have hok := (hL.2.2 _ _ hg).1
    subst hi
    cases r with
    | none => exact lv_aloadN hC.1 hC.2.1 hd hv (go hw hn rfl hC hr hL (okS_c hok hS) hR hbc hbs hlo)
    | some a => exact lv_aload hC.1 hC.2.1 hd hv (go hw hn rfl hC hr hL (okS_c hok hS) hR hbc hbs hlo)
  · exact hw.elim
theorem si_aload_n {i : Fin 4} (ho : okE k pc (.aload_n i, nx, x, y) = true) (hw : wpi (dG D) (simP D KX) (.aload_n i, nx, x, y) d k pc ls st h bc bs Q X) : simP D KX d k pc ls st h bc bs Q X := by
  intro p l e R s m args below meth c H locs cells slots LS hC hr hL hS hR hbc hbs hlo
  obtain ⟨hd, hn⟩ := okE_dec ho (by simp [ilen])
  have hi : (i : Nat) = x := by unfold okE at ho; simp only [Bool.and_eq_true, decide_eq_true_eq] at ho; exact ho.2
  unfold wpi at hw
  dsimp only at hw
  split at hw
  · rename_i r hg
    have hv := hL.get hg
    have hok := (hL.2.2 _ _ hg).1
    cases r with
    | none => exact lv_aload_nN hC.1 hC.2.1 hd hi hv (go hw hn rfl hC hr hL (okS_c hok hS) hR hbc hbs hlo)
    | some a => exact lv_aload_n hC.1 hC.2.1 hd hi hv (go hw hn rfl hC hr hL (okS_c hok hS) hR hbc hbs hlo)
  · exact hw.elim
theorem si_istore {i : Nat} (ho : okE k pc (.istore i, nx, x, y) = true) (hw : wpi (dG D) (simP D KX) (.istore i, nx, x, y) d k pc ls st h bc bs Q X) : simP D KX d k pc ls st h bc bs Q X := by
  intro p l e R s m args below meth c H locs cells slots LS hC hr hL hS hR hbc hbs hlo
  obtain ⟨hd, hn⟩ := okE_dec ho (by simp [ilen])
  have hi : i = x ∧ x < mL k := by unfold okE at ho; simp only [Bool.and_eq_true, decide_eq_true_eq] at ho; exact ho.2
  obtain ⟨hi, hx⟩ := hi
  subst hi
  match st, hw, hS with
  | .inl z :: r, hw, hS =>
    exact lv_istore hC.1 hC.2.1 hd hL.2.1 hx rfl (fun LS' h' => go hw hn rfl hC hr (hL.set (okS_h hS) rfl hx h') (okS_t hS) hR hbc hbs hlo)
theorem si_istore_n {i : Fin 4} (ho : okE k pc (.istore_n i, nx, x, y) = true) (hw : wpi (dG D) (simP D KX) (.istore_n i, nx, x, y) d k pc ls st h bc bs Q X) : simP D KX d k pc ls st h bc bs Q X := by
  intro p l e R s m args below meth c H locs cells slots LS hC hr hL hS hR hbc hbs hlo
  obtain ⟨hd, hn⟩ := okE_dec ho (by simp [ilen])
  have hi : (i : Nat) = x ∧ x < mL k := by unfold okE at ho; simp only [Bool.and_eq_true, decide_eq_true_eq] at ho; exact ho.2
  obtain ⟨hi, hx⟩ := hi
  match st, hw, hS with
  | .inl z :: r, hw, hS =>
    exact lv_istore_n hC.1 hC.2.1 hd hi hL.2.1 hx rfl (fun LS' h' => go hw hn rfl hC hr (hL.set (okS_h hS) rfl hx h') (okS_t hS) hR hbc hbs hlo)
theorem si_astore {i : Nat} (ho : okE k pc (.astore i, nx, x, y) = true) (hw : wpi (dG D) (simP D KX) (.astore i, nx, x, y) d k pc ls st h bc bs Q X) : simP D KX d k pc ls st h bc bs Q X := by
  intro p l e R s m args below meth c H locs cells slots LS hC hr hL hS hR hbc hbs hlo
  obtain ⟨hd, hn⟩ := okE_dec ho (by simp [ilen])
  have hi : i = x ∧ x < mL k := by unfold okE at ho; simp only [Bool.and_eq_true, decide_eq_true_eq] at ho; exact ho.2
  obtain ⟨hi, hx⟩ := hi
  subst hi
  match st, hw, hS with
  | .inr (.inl none) :: r, hw, hS =>
    exact lv_astoreN hC.1 hC.2.1 hd hL.2.1 hx rfl (fun LS' h' => go hw hn rfl hC hr (hL.set (okS_h hS) rfl hx h') (okS_t hS) hR hbc hbs hlo)
  | .inr (.inl (some a)) :: r, hw, hS =>
    exact lv_astore hC.1 hC.2.1 hd hL.2.1 hx rfl (fun LS' h' => go hw hn rfl hC hr (hL.set (okS_h hS) rfl hx h') (okS_t hS) hR hbc hbs hlo)
theorem si_astore_n {i : Fin 4} (ho : okE k pc (.astore_n i, nx, x, y) = true) (hw : wpi (dG D) (simP D KX) (.astore_n i, nx, x, y) d k pc ls st h bc bs Q X) : simP D KX d k pc ls st h bc bs Q X := by
  intro p l e R s m args below meth c H locs cells slots LS hC hr hL hS hR hbc hbs hlo
  obtain ⟨hd, hn⟩ := okE_dec ho (by simp [ilen])
  have hi : (i : Nat) = x ∧ x < mL k := by unfold okE at ho; simp only [Bool.and_eq_true, decide_eq_true_eq] at ho; exact ho.2
  obtain ⟨hi, hx⟩ := hi
  match st, hw, hS with
  | .inr (.inl none) :: r, hw, hS =>
    exact lv_astore_nN hC.1 hC.2.1 hd hi hL.2.1 hx rfl (fun LS' h' => go hw hn rfl hC hr (hL.set (okS_h hS) rfl hx h') (okS_t hS) hR hbc hbs hlo)
  | .inr (.inl (some a)) :: r, hw, hS =>
    exact lv_astore_n hC.1 hC.2.1 hd hi hL.2.1 hx rfl (fun LS' h' => go hw hn rfl hC hr (hL.set (okS_h hS) rfl hx h') (okS_t hS) hR hbc hbs hlo)
theorem lp_idx {ls : List (Option mV)} {i : Nat} {v : mV} (h : lget ls i = some v) : ∃ n : Nat, (lp ls)[n]? = some (i, toV v) := List.getElem?_of_mem (lp_mem h)
theorem si_iinc {i : Nat} {v : Int} (ho : okE k pc (.iinc i v, nx, x, y) = true) (hw : wpi (dG D) (simP D KX) (.iinc i v, nx, x, y) d k pc ls st h bc bs Q X) : simP D KX d k pc ls st h bc bs Q X := by
  intro p l e R s m args below meth c H locs cells slots LS hC hr hL hS hR hbc hbs hlo
  obtain ⟨hd, hn⟩ := okE_dec ho (by simp [ilen])
  have hi : (i = x ∧ x < mL k) ∧ inRb v = true := by unfold okE at ho; simp only [Bool.and_eq_true, decide_eq_true_eq] at ho; exact ho.2
  obtain ⟨⟨hi, hx⟩, -⟩ := hi
  subst hi
  unfold wpi at hw
  dsimp only at hw
  split at hw
  · rename_i z hg
    obtain ⟨n, hn9⟩ := lp_idx hg
    refine lv_iinc hC.1 hC.2.1 hd hL.2.1 hn9 (v := Int32.ofInt (z + v)) (by rw [Int32.ofInt_add]) hx rfl (fun LS' h' => go hw.2 hn rfl hC hr (hL.set (v := .inl (z + v)) hw.1 rfl hx h') hS hR hbc hbs hlo)
  · exact hw.elim
theorem inR_of (x : Int32) : inR x.toInt := i32_inR x
theorem si_iadd (ho : okE k pc (.iadd, nx, x, y) = true) (hw : wpi (dG D) (simP D KX) (.iadd, nx, x, y) d k pc ls st h bc bs Q X) : simP D KX d k pc ls st h bc bs Q X := by
  intro p l e R s m args below meth c H locs cells slots LS hC hr hL hS hR hbc hbs hlo
  obtain ⟨hd, hn⟩ := okE_dec ho (by simp [ilen])
  match st, hw, hS with
  | .inl b :: .inl a :: r, hw, hS =>
    refine lv_iadd hC.1 hC.2.1 hd ?_
    rw [← Int32.ofInt_add]
    exact go hw.2 hn rfl hC hr hL (okS_c hw.1 (okS_t (okS_t hS))) hR hbc hbs hlo
theorem si_isub (ho : okE k pc (.isub, nx, x, y) = true) (hw : wpi (dG D) (simP D KX) (.isub, nx, x, y) d k pc ls st h bc bs Q X) : simP D KX d k pc ls st h bc bs Q X := by
  intro p l e R s m args below meth c H locs cells slots LS hC hr hL hS hR hbc hbs hlo
  obtain ⟨hd, hn⟩ := okE_dec ho (by simp [ilen])
  match st, hw, hS with
  | .inl b :: .inl a :: r, hw, hS =>
    refine lv_isub hC.1 hC.2.1 hd ?_
    rw [← Int32.ofInt_sub]
    exact go hw.2 hn rfl hC hr hL (okS_c hw.1 (okS_t (okS_t hS))) hR hbc hbs hlo
theorem si_imul (ho : okE k pc (.imul, nx, x, y) = true) (hw : wpi (dG D) (simP D KX) (.imul, nx, x, y) d k pc ls st h bc bs Q X) : simP D KX d k pc ls st h bc bs Q X := by
  intro p l e R s m args below meth c H locs cells slots LS hC hr hL hS hR hbc hbs hlo
  obtain ⟨hd, hn⟩ := okE_dec ho (by simp [ilen])
  match st, hw, hS with
  | .inl b :: .inl a :: r, hw, hS =>
    refine lv_imul hC.1 hC.2.1 hd ?_
    rw [← Int32.ofInt_mul]
    exact go hw.2 hn rfl hC hr hL (okS_c hw.1 (okS_t (okS_t hS))) hR hbc hbs hlo
theorem si_iand (ho : okE k pc (.iand, nx, x, y) = true) (hw : wpi (dG D) (simP D KX) (.iand, nx, x, y) d k pc ls st h bc bs Q X) : simP D KX d k pc ls st h bc bs Q X := by
  intro p l e R s m args below meth c H locs cells slots LS hC hr hL hS hR hbc hbs hlo
  obtain ⟨hd, hn⟩ := okE_dec ho (by simp [ilen])
  match st, hw, hS with
  | .inl b :: .inl a :: r, hw, hS =>
    exact lv_iand hC.1 hC.2.1 hd (go hw hn (by show _ :: _ = _ :: _; rw [show toV (.inl (bAnd a b)) = Value.int (Int32.ofInt (bAnd a b)) from rfl, bAnd, i32_of]) hC hr hL (okS_c (inR_of _) (okS_t (okS_t hS))) hR hbc hbs hlo)
theorem si_ior (ho : okE k pc (.ior, nx, x, y) = true) (hw : wpi (dG D) (simP D KX) (.ior, nx, x, y) d k pc ls st h bc bs Q X) : simP D KX d k pc ls st h bc bs Q X := by
  intro p l e R s m args below meth c H locs cells slots LS hC hr hL hS hR hbc hbs hlo
  obtain ⟨hd, hn⟩ := okE_dec ho (by simp [ilen])
  match st, hw, hS with
  | .inl b :: .inl a :: r, hw, hS =>
    exact lv_ior hC.1 hC.2.1 hd (go hw hn (by show _ :: _ = _ :: _; rw [show toV (.inl (bOr a b)) = Value.int (Int32.ofInt (bOr a b)) from rfl, bOr, i32_of]) hC hr hL (okS_c (inR_of _) (okS_t (okS_t hS))) hR hbc hbs hlo)
theorem si_ishl (ho : okE k pc (.ishl, nx, x, y) = true) (hw : wpi (dG D) (simP D KX) (.ishl, nx, x, y) d k pc ls st h bc bs Q X) : simP D KX d k pc ls st h bc bs Q X := by
  intro p l e R s m args below meth c H locs cells slots LS hC hr hL hS hR hbc hbs hlo
  obtain ⟨hd, hn⟩ := okE_dec ho (by simp [ilen])
  match st, hw, hS with
  | .inl b :: .inl a :: r, hw, hS =>
    exact lv_ishl hC.1 hC.2.1 hd (go hw hn (by show _ :: _ = _ :: _; rw [show toV (.inl (bShl a b)) = Value.int (Int32.ofInt (bShl a b)) from rfl, bShl, i32_of]) hC hr hL (okS_c (inR_of _) (okS_t (okS_t hS))) hR hbc hbs hlo)
theorem si_ishr (ho : okE k pc (.ishr, nx, x, y) = true) (hw : wpi (dG D) (simP D KX) (.ishr, nx, x, y) d k pc ls st h bc bs Q X) : simP D KX d k pc ls st h bc bs Q X := by
  intro p l e R s m args below meth c H locs cells slots LS hC hr hL hS hR hbc hbs hlo
  obtain ⟨hd, hn⟩ := okE_dec ho (by simp [ilen])
  match st, hw, hS with
  | .inl b :: .inl a :: r, hw, hS =>
    exact lv_ishr hC.1 hC.2.1 hd (go hw hn (by show _ :: _ = _ :: _; rw [show toV (.inl (bShr a b)) = Value.int (Int32.ofInt (bShr a b)) from rfl, bShr, i32_of]) hC hr hL (okS_c (inR_of _) (okS_t (okS_t hS))) hR hbc hbs hlo)
theorem si_iushr (ho : okE k pc (.iushr, nx, x, y) = true) (hw : wpi (dG D) (simP D KX) (.iushr, nx, x, y) d k pc ls st h bc bs Q X) : simP D KX d k pc ls st h bc bs Q X := by
  intro p l e R s m args below meth c H locs cells slots LS hC hr hL hS hR hbc hbs hlo
  obtain ⟨hd, hn⟩ := okE_dec ho (by simp [ilen])
  match st, hw, hS with
  | .inl b :: .inl a :: r, hw, hS =>
    exact lv_iushr hC.1 hC.2.1 hd rfl (go hw hn (by show _ :: _ = _ :: _; rw [show toV (.inl (bUshr a b)) = Value.int (Int32.ofInt (bUshr a b)) from rfl, bUshr, i32_of]) hC hr hL (okS_c (inR_of _) (okS_t (okS_t hS))) hR hbc hbs hlo)
theorem si_ineg (ho : okE k pc (.ineg, nx, x, y) = true) (hw : wpi (dG D) (simP D KX) (.ineg, nx, x, y) d k pc ls st h bc bs Q X) : simP D KX d k pc ls st h bc bs Q X := by
  intro p l e R s m args below meth c H locs cells slots LS hC hr hL hS hR hbc hbs hlo
  obtain ⟨hd, hn⟩ := okE_dec ho (by simp [ilen])
  match st, hw, hS with
  | .inl a :: r, hw, hS =>
    refine lv_ineg hC.1 hC.2.1 hd ?_
    rw [← Int32.ofInt_neg]
    exact go hw.2 hn rfl hC hr hL (okS_c hw.1 (okS_t hS)) hR hbc hbs hlo
theorem si_idiv (ho : okE k pc (.idiv, nx, x, y) = true) (hw : wpi (dG D) (simP D KX) (.idiv, nx, x, y) d k pc ls st h bc bs Q X) : simP D KX d k pc ls st h bc bs Q X := by
  intro p l e R s m args below meth c H locs cells slots LS hC hr hL hS hR hbc hbs hlo
  obtain ⟨hd, hn⟩ := okE_dec ho (by simp [ilen])
  match st, hw, hS with
  | .inl b :: .inl a :: r, hw, hS =>
    obtain ⟨⟨ha, hb⟩, hw⟩ := hw
    have hbR : inR b := okS_h hS
    have haR : inR a := okS_h (okS_t hS)
    have hq : inR (a / b) := by
      have h1 : 0 ≤ a / b := Int.ediv_nonneg ha (by omega)
      have h2 : a / b ≤ a := Int.ediv_le_self b ha
      exact ⟨by omega, by have := haR.2; omega⟩
    have hne : ¬ Int32.ofInt b = 0 := fun q => by
      have := (i32_eq hbR inR0).mp q
      omega
    refine lv_idiv hC.1 hC.2.1 hd hne ?_
    have he : Int32.ofInt a / Int32.ofInt b = Int32.ofInt (a / b) := by
      apply Int32.toInt_inj.mp
      rw [Int32.toInt_div, i32_toInt haR, i32_toInt hbR, i32_toInt hq, Int.tdiv_eq_ediv_of_nonneg ha, Int.bmod_eq_of_le (by have := hq.1; omega) (by have := hq.2; omega)]
    rw [he]
    exact go hw hn rfl hC hr hL (okS_c hq (okS_t (okS_t hS))) hR hbc hbs hlo
end Sim
