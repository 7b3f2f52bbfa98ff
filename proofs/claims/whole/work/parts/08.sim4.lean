section Sim
variable {D : mD} {KX : State → Prop} {d k pc nx x : Nat} {y : List Nat} {ls : List (Option mV)} {st : List mV} {h : mH} {bc bs : Nat} {Q : mQ} {X : mX}
variable {p : Program} {l : Launch} {e : Env} {R : Room} {s : State} {m : MethodId} {args : Array Value} {below : List Frame} {meth : Method} {c : Code} {H : Heap} {locs : List Loc} {cells slots : Nat} {LS : Array Slot}
theorem Cx.kf (hC : Cx D KX k p l s m args meth c) : KF D KX s := hC.2.2.2.2.2.2.2.2.2.2.1
theorem Cx.ws (hC : Cx D KX k p l s m args meth c) {w : Cond} {n : Nat} (h : wAt n w = true) (hg : goodWord w = true) : w.before args s = true := hC.2.2.2.2.1 w (ws_at h hg)
theorem c_in {t : Nat} (ht : t < 12) : ∀ w ∈ u_ws (RRc t) (TTc t) (NFc t), w ∈ WS := by
  intro w hw
  obtain ⟨j, hj, rfl⟩ := List.mem_map.mp hw
  have hj := List.mem_range.mp hj
  refine ws_at (c_lay t ht j hj) ?_
  unfold u_lay
  split <;> rfl
theorem c_apart {s : State} {args : Array Value} (hts : ∀ w ∈ WS, w.before args s = true) {t : Nat} (ht : t < 12) (hK : u_Kn s (RRc t) (TTc t) (NFc t) (dC D t) (dI D t)) : ∀ x y, x < NFc t → y < NFc t → x ≠ y → dI D t x ≠ dI D t y := by
  intro x y hx hy hne
  obtain ⟨_, _, _, fa, hia, ea⟩ := hK.1 x hx
  obtain ⟨_, _, _, fb, hib, eb⟩ := hK.1 y hy
  rw [← ea, ← eb]
  refine u_apart (u_lays hts (c_in ht) hx) (u_lays hts (c_in ht) hy) hia hib ?_
  rw [(State.fieldFound?_type hia (c_ty t ht x hx)).1, (State.fieldFound?_type hib (c_ty t ht y hy)).1]
  exact c_nm t ht x hx y hy hne
theorem gf_own {i j n : Nat} (hx : x < 12) (hj : j < NFc x) (hlink : (Cond.fieldLink (RRc (mC k)) i (RRc x) (TTc x j).2.1 (TTc x j).2.2.1).before args s = true) {a : Nat} (ht : hty h a = some (x, n)) (hC : Cx D KX k p l s m args meth c) (hr : Rel D h H)
    {rp : Nat} {Qs : State → Prop} {rest : List Value} (hd : decode (mB k) rp = .ok (.getfield i, 3)) (kk : W p l e R s m args below meth c H locs cells slots Qs (F0 m (rp + 3) LS (svO h x a j :: rest))) :
    W p l e R s m args below meth c H locs cells slots Qs (F0 m rp LS (.ref a :: rest)) := by
  obtain ⟨-, -, cell, q1, q2, q3, q4⟩ := hr.own hC.kf ht hx
  obtain ⟨hSl, hfc, kC, hkC, hkind⟩ := hC.kf.1 x hx
  obtain ⟨cf, kf, fi, f, hi, hsl⟩ := hSl j hj
  rw [c_dc x hx j hj] at hi
  refine W.getf hC.1 hC.2.1 hC.2.2.2.1 hlink hi (u_facts hfc hkC (u_lays hC.2.2.2.2.1 (c_in hx) hj) (by rw [c_dc x hx j hj]; exact hi)).1 q1 (by rw [q3]; exact vm_u) (v := svO h x a j) ?_ rfl rfl hd kk
  rw [hsl]
  exact q4 j hj
theorem si_getfS {i j : Nat} (ho : okE k pc (.getfield i, nx, x, [j]) = true) (hw : wpi (dG D) (simP D KX) (.getfield i, nx, x, [j]) d k pc ls st h bc bs Q X) : simP D KX d k pc ls st h bc bs Q X := by
  intro p l e R s m args below meth c H locs cells slots LS hC hr hL hS hR hbc hbs hlo
  obtain ⟨hd, hn⟩ := okE_dec ho (by simp [ilen])
  unfold okE at ho
  simp only [Bool.and_eq_true, Bool.or_eq_true, decide_eq_true_eq] at ho
  obtain ⟨-, hF⟩ := ho
  match st, hw, hS with
  | .inr (.inl (some a)) :: r, hw, hS =>
    obtain ⟨q, ⟨h1, h2, hq⟩, hv2⟩ := hw
    subst hq
    have hsf := hC.kf.2.2.2.2.2.2.2.2.2.1 q h1 h2
    rcases hF with ⟨hj, hl⟩ | ⟨hj, hl⟩
    · subst hj
      obtain ⟨cf, kf, fi, f, cell, f1, f2, f3, f4, f5, f6⟩ := hsf.2.2.1.kept (kept_D hr)
      exact W.getf hC.1 hC.2.1 hC.2.2.2.1 (hC.ws hl rfl) f1 f2 f3 f4 f5 rfl rfl hd (go hv2 hn rfl hC hr hL (okS_c (v := .inr (.inl _)) trivial (okS_t hS)) hR hbc hbs hlo)
    · subst hj
      obtain ⟨cf, kf, fi, f, cell, f1, f2, f3, f4, f5, f6⟩ := hsf.2.1.kept (kept_D hr)
      exact W.getf hC.1 hC.2.1 hC.2.2.2.1 (hC.ws hl rfl) f1 f2 f3 f4 f5 rfl rfl hd (go hv2 hn rfl hC hr hL (okS_c (v := .inl 0) inR0 (okS_t hS)) hR hbc hbs hlo)
theorem si_getfield {i j kd n : Nat} (ho : okE k pc (.getfield i, nx, x, [j, kd, n]) = true) (hw : wpi (dG D) (simP D KX) (.getfield i, nx, x, [j, kd, n]) d k pc ls st h bc bs Q X) : simP D KX d k pc ls st h bc bs Q X := by
  intro p l e R s m args below meth c H locs cells slots LS hC hr hL hS hR hbc hbs hlo
  obtain ⟨hd, hn⟩ := okE_dec ho (by simp [ilen])
  unfold okE at ho
  simp only [Bool.and_eq_true, decide_eq_true_eq] at ho
  obtain ⟨-, hF, hkd⟩ := ho
  match st, hw, hS with
  | .inr (.inl (some a)) :: r, hw, hS =>
    obtain ⟨ht, hv2⟩ := hw
    unfold okFj at hF
    simp only [Bool.and_eq_true, decide_eq_true_eq] at hF
    obtain ⟨⟨⟨hx, hnn⟩, hj⟩, hl⟩ := hF
    subst hnn
    refine gf_own hx hj (hC.ws hl rfl) ht hC hr hd ?_
    match kd, hv2, hkd with
    | 0, hv2, hkd =>
      have hf : ¬ fkd (TYc x j) = 1 := by simpa using hkd
      have hsv : svO h x a j = .int (Int32.ofInt (hvi h a j)) := by
        unfold svO
        split
        · rename_i q; exact absurd q hf
        · rfl
      rw [hsv]
      exact go hv2 hn rfl hC hr hL (okS_c (v := .inl _) (hr.2.2.1 a j) (okS_t hS)) hR hbc hbs hlo
    | kd + 1, hv2, hkd =>
      have hf : fkd (TYc x j) = 1 := by simpa using hkd
      have hsv : svO h x a j = va_rf (hvr h a j) := by
        unfold svO
        rw [hf]
        rfl
      rw [hsv]
      exact go hv2 hn rfl hC hr hL (okS_c (v := .inr (.inl _)) trivial (okS_t hS)) hR hbc hbs hlo
theorem CellO.set {h' : mH} {H' : Heap} {t a j : Nat} {cell : Cell} {v : Value} (hap : ∀ x y, x < NFc t → y < NFc t → x ≠ y → dI D t x ≠ dI D t y) (c1 : cell.cls = dC D t) (c2 : cell.vm = .none) (c4 : ∀ j, j < NFc t → cell.slots[dI D t j]? = some (svO h t a j)) (hj : j < NFc t)
    (e : H'[a]? = some (cell.setSlot (dI D t j) v)) (hv : svO h' t a j = v) (ho : ∀ i, i ≠ j → svO h' t a i = svO h t a i) : CellO D h' H' t a := by
  refine ⟨_, e, c1, c2, fun i hi => ?_⟩
  rw [slots_set]
  by_cases hij : i = j
  · subst hij
    rw [if_pos ⟨rfl, (Array.getElem?_eq_some_iff.mp (c4 i hi)).1⟩, hv]
  · rw [if_neg (fun q => hap j i hj hi (fun z => hij z.symm) q.1), c4 i hi, ho i hij]
theorem pf_own {i j n : Nat} {v : Value} (hx : x < 12) (hj : j < NFc x) (hlink : (Cond.fieldLink (RRc (mC k)) i (RRc x) (TTc x j).2.1 (TTc x j).2.2.1).before args s = true) (hfin : (TTc x j).2.2.2 = false ∨ (mC k = x ∧ (mY k).name = "<init>")) {a : Nat} (ht : hty h a = some (x, n)) (hC : Cx D KX k p l s m args meth c) (hr : Rel D h H)
    (hnar : narrow (TYc x j) v = v) (hfit : fits (TYc x j) v = true)
    {rp : Nat} {Qs : State → Prop} {rest : List Value} (hd : decode (mB k) rp = .ok (.putfield i, 3)) (kk : ∀ (H' : Heap) (cell : Cell), cell.cls = dC D x → cell.vm = .none → (∀ j, j < NFc x → cell.slots[dI D x j]? = some (svO h x a j)) → H'[a]? = some (cell.setSlot (dI D x j) v) → H'.size = H.size → (∀ q, q ≠ a → H'[q]? = H[q]?) → W p l e R s m args below meth c H' (locs ++ [⟨a, dI D x j⟩]) cells slots Qs (F0 m (rp + 3) LS rest)) :
    W p l e R s m args below meth c H locs cells slots Qs (F0 m rp LS (v :: .ref a :: rest)) := by
  obtain ⟨-, -, cell, q1, q2, q3, q4⟩ := hr.own hC.kf ht hx
  obtain ⟨hSl, hfc, kC, hkC, hkind⟩ := hC.kf.1 x hx
  obtain ⟨cf, kf, fi, f, hi, hsl⟩ := hSl j hj
  have hts := hC.2.2.2.2.1
  have hlays := u_lays hts (c_in hx) hj
  have hst := (u_facts hfc hkC hlays hi).1
  have hlt : f.slot < cell.slots.size := by rw [hsl]; exact (Array.getElem?_eq_some_iff.mp (q4 j hj)).1
  have hi' : s.fieldFound? (RRc x) (TTc x j).2.1 (TTc x j).2.2.1 = some (cf, kf, fi, f) := by rw [← c_dc x hx j hj]; exact hi
  have hlay := hts _ (c_in hx _ (u_in_lay hj))
  unfold u_lay at hlay
  by_cases hf : (TTc x j).2.2.2 = true
  · rw [if_pos hf] at hlay
    obtain ⟨hcx, hinit⟩ := hfin.resolve_left (by rw [hf]; decide)
    have hcf : m.cls = cf := by
      obtain ⟨_, _, c', _, _, _, -, -, hf', -, -, -, hown2, -⟩ := Cond.laysFinal_spec hlay
      have e1 : c' = cf := by have := hi.symm.trans hf'; simp at this; exact this.1.symm
      rw [c_dc x hx j hj] at hown2
      have hown := hC.2.2.2.1
      rw [hcx] at hown
      rw [← e1]; exact Option.some.inj (hown.symm.trans hown2)
    have h6 := u_fits hfc hkC hkind (Or.inr hlay) hi (c_ty x hx j hj) hnar hfit
    refine W.putFinK hC.1 hC.2.1 hC.2.2.2.1 hlink hi' hst hcf (hC.2.2.2.2.2.2.2.1 hinit) (by rw [q2]; exact h6) q1 q3 hlt rfl rfl hd fun H' e1 e2 e3 => ?_
    rw [hsl] at e1 ⊢
    exact kk H' cell q2 q3 q4 e1 e2 e3
  · rw [if_neg hf] at hlay
    have h6 := u_store hfc hkC hkind hlay hi (c_ty x hx j hj) hnar hfit
    refine W.putK hC.1 hC.2.1 (f := f) ⟨hC.2.2.2.1, hlink, ⟨_, _, _, hi'⟩, hst⟩ (by rw [q2]; exact h6) q1 q3 hlt rfl rfl hd fun H' e1 e2 e3 => ?_
    rw [hsl] at e1 ⊢
    exact kk H' cell q2 q3 q4 e1 e2 e3
theorem fkd_cases (t : FieldType) : (fkd t = 0 ∧ t = .int) ∨ (fkd t = 2 ∧ t = .boolean) ∨ fkd t = 1 := by
  cases t <;> simp [fkd]
theorem svO_I {t a j : Nat} (hf : fkd (TYc t j) ≠ 1) : svO h t a j = .int (Int32.ofInt (hvi h a j)) := by
  unfold svO
  split
  · rename_i q; exact absurd q hf
  · rfl
theorem svO_R {t a j : Nat} (hf : fkd (TYc t j) = 1) : svO h t a j = va_rf (hvr h a j) := by
  unfold svO
  rw [hf]
  rfl
theorem svO_setI {t a j i : Nat} {z : Int} (hij : i ≠ j) : svO (hsetI h a j z) t a i = svO h t a i := by
  unfold svO
  rw [hvi_I, if_neg (fun q => hij q.2), hvr_I]
theorem svO_setR {t a j i : Nat} {z : Option Nat} (hij : i ≠ j) : svO (hsetR h a j z) t a i = svO h t a i := by
  unfold svO
  rw [hvr_R, if_neg (fun q => hij q.2), hvi_R]
theorem c_ref {t j : Nat} (ht : t < 12) (hj : j < NFc t) (hf : fkd (TYc t j) = 1) (r : Option Nat) : narrow (TYc t j) (va_rf r) = va_rf r ∧ fits (TYc t j) (va_rf r) = true := by
  have h0 := c_rty t ht j hj hf
  rcases h0 with ⟨n, hn⟩ | ⟨n, hn⟩ <;> rw [hn] <;> cases r <;> exact ⟨rfl, rfl⟩
theorem fit_bool {z : Int} (h : z = 0 ∨ z = 1) : fits .boolean (.int (Int32.ofInt z)) = true := by
  rcases h with rfl | rfl <;> decide
theorem si_putfield {i j kd n : Nat} (ho : okE k pc (.putfield i, nx, x, [j, kd, n]) = true) (hw : wpi (dG D) (simP D KX) (.putfield i, nx, x, [j, kd, n]) d k pc ls st h bc bs Q X) : simP D KX d k pc ls st h bc bs Q X := by
  intro p l e R s m args below meth c H locs cells slots LS hC hr hL hS hR hbc hbs hlo
  obtain ⟨hd, hn⟩ := okE_dec ho (by simp [ilen])
  unfold okE at ho
  simp only [Bool.and_eq_true, Bool.or_eq_true, decide_eq_true_eq] at ho
  obtain ⟨-, ⟨⟨hx, hF⟩, hkd⟩, hfin⟩ := ho
  unfold okFj at hF
  simp only [Bool.and_eq_true, decide_eq_true_eq] at hF
  obtain ⟨⟨⟨-, hnn⟩, hj⟩, hl⟩ := hF
  subst hnn
  have hap := c_apart (D := D) hC.2.2.2.2.1 hx (hC.kf.1 x hx)
  match kd, st, hw, hS, hkd with
  | 0, .inl z :: .inr (.inl (some a)) :: r, hw, hS, hkd =>
    obtain ⟨ht, hw⟩ := hw
    have hB := (hr.own hC.kf ht hx).1
    rcases fkd_cases (TYc x j) with ⟨-, hty9⟩ | ⟨q, -⟩ | q
    · have hf1 : fkd (TYc x j) ≠ 1 := by rw [← hkd]; decide
      have hxR : inR z := okS_h hS
      refine pf_own hx hj (hC.ws hl rfl) hfin ht hC hr (v := .int (Int32.ofInt z)) (by rw [hty9]; exact rfl) (by rw [hty9]; exact rfl) hd (fun H' cell c1 c2 c4 e1 e2 e3 => ?_)
      have hrel : Rel D (hsetI h a j z) H' := by
        refine hr.upd hB ht rfl (fun b => rfl) (fun b hb i => ?_) (fun b hb i => rfl) (fun b hb i => rfl) (fun i => ?_) (fun i => hr.2.2.2.1 a i) e2 e3 (Or.inl ⟨hx, rfl, CellO.set hap c1 c2 c4 hj e1 ?_ (fun i hi => svO_setI hi)⟩)
        · rw [hvi_I, if_neg (fun q => hb q.1)]
        · rw [hvi_I]; split
          · exact hxR
          · exact hr.2.2.1 a i
        · rw [svO_I hf1, hvi_I, if_pos ⟨rfl, rfl⟩]
      exact go hw hn rfl hC hrel hL (okS_t (okS_t hS)) hR hbc hbs (fun z hz => (List.mem_append.mp hz).elim (hlo z) (fun q => by rw [List.mem_singleton.mp q]; exact hB))
    · rw [← hkd] at q; cases q
    · rw [← hkd] at q; cases q
  | 2, .inl z :: .inr (.inl (some a)) :: r, hw, hS, hkd =>
    obtain ⟨ht, hz, hw⟩ := hw
    have hB := (hr.own hC.kf ht hx).1
    rcases fkd_cases (TYc x j) with ⟨q, -⟩ | ⟨-, hty9⟩ | q
    · rw [← hkd] at q; cases q
    · have hf1 : fkd (TYc x j) ≠ 1 := by rw [← hkd]; decide
      have hxR : inR z := okS_h hS
      refine pf_own hx hj (hC.ws hl rfl) hfin ht hC hr (v := .int (Int32.ofInt z)) (by rw [hty9]; exact nar_bool hz) (by rw [hty9]; exact fit_bool hz) hd (fun H' cell c1 c2 c4 e1 e2 e3 => ?_)
      have hrel : Rel D (hsetI h a j z) H' := by
        refine hr.upd hB ht rfl (fun b => rfl) (fun b hb i => ?_) (fun b hb i => rfl) (fun b hb i => rfl) (fun i => ?_) (fun i => hr.2.2.2.1 a i) e2 e3 (Or.inl ⟨hx, rfl, CellO.set hap c1 c2 c4 hj e1 ?_ (fun i hi => svO_setI hi)⟩)
        · rw [hvi_I, if_neg (fun q => hb q.1)]
        · rw [hvi_I]; split
          · exact hxR
          · exact hr.2.2.1 a i
        · rw [svO_I hf1, hvi_I, if_pos ⟨rfl, rfl⟩]
      exact go hw hn rfl hC hrel hL (okS_t (okS_t hS)) hR hbc hbs (fun z hz => (List.mem_append.mp hz).elim (hlo z) (fun q => by rw [List.mem_singleton.mp q]; exact hB))
    · rw [← hkd] at q; cases q
  | 1, .inr (.inl z) :: .inr (.inl (some a)) :: r, hw, hS, hkd =>
    obtain ⟨ht, hw⟩ := hw
    have hB := (hr.own hC.kf ht hx).1
    have hf1 : fkd (TYc x j) = 1 := hkd.symm
    obtain ⟨hnar, hfit⟩ := c_ref hx hj hf1 z
    refine pf_own hx hj (hC.ws hl rfl) hfin ht hC hr (v := va_rf z) hnar hfit hd (fun H' cell c1 c2 c4 e1 e2 e3 => ?_)
    have hrel : Rel D (hsetR h a j z) H' := by
      refine hr.upd hB ht rfl (fun b => rfl) (fun b hb i => rfl) (fun b hb i => ?_) (fun b hb i => rfl) (fun i => hr.2.2.1 a i) (fun i => hr.2.2.2.1 a i) e2 e3 (Or.inl ⟨hx, rfl, CellO.set hap c1 c2 c4 hj e1 ?_ (fun i hi => svO_setR hi)⟩)
      · rw [hvr_R, if_neg (fun q => hb q.1)]
      · rw [svO_R hf1, hvr_R, if_pos ⟨rfl, rfl⟩]
    exact go hw hn rfl hC hrel hL (okS_t (okS_t hS)) hR hbc hbs (fun z hz => (List.mem_append.mp hz).elim (hlo z) (fun q => by rw [List.mem_singleton.mp q]; exact hB))
end Sim
