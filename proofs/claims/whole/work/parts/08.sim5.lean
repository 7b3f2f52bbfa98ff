section Sim
variable {D : mD} {KX : State → Prop} {d k pc nx x : Nat} {y : List Nat} {ls : List (Option mV)} {st : List mV} {h : mH} {bc bs : Nat} {Q : mQ} {X : mX}
variable {p : Program} {l : Launch} {e : Env} {R : Room} {s : State} {m : MethodId} {args : Array Value} {below : List Frame} {meth : Method} {c : Code} {H : Heap} {locs : List Loc} {cells slots : Nat} {LS : Array Slot}
theorem si_new {i n : Nat} (ho : okE k pc (.new i, nx, x, [n]) = true) (hw : wpi (dG D) (simP D KX) (.new i, nx, x, [n]) d k pc ls st h bc bs Q X) : simP D KX d k pc ls st h bc bs Q X := by
  intro p l e R s m args below meth c H locs cells slots LS hC hr hL hS hR hbc hbs hlo
  obtain ⟨hd, hn⟩ := okE_dec ho (by simp [ilen])
  unfold okE at ho
  simp only [Bool.and_eq_true, Bool.or_eq_true, decide_eq_true_eq] at ho
  obtain ⟨-, ⟨hx, hnn⟩, hl⟩ := ho
  subst hnn
  obtain ⟨⟨hb1, hb2⟩, hw⟩ := hw
  obtain ⟨hSl, hfc, hcl⟩ := hC.kf.1 x hx
  obtain ⟨w1, w2⟩ := c_ins x hx
  refine W.newcK hC.1 hC.2.1 hC.2.2.2.1 (hC.ws hl rfl) (hC.ws w1 rfl) (hC.ws w2 rfl) rfl hd (by omega) (by omega) hfc (h := hsz h) hr.1 (fun H' kC hkC e1 e2 e3 => ?_)
  have hb := u_born (TYc x) hC.2.2.2.2.1 (c_in hx) ⟨hSl, hfc, hcl⟩ hkC e1 (c_ty x hx)
  have hrel : Rel D (hpush h x (NFc x)) H' := by
    refine hr.push (by rw [e2, hr.1]) (fun q hq => e3 q (by rw [← hr.1]; exact hq)) (Or.inl ⟨hx, rfl, ?_⟩)
    obtain ⟨cell, g1, g2, g3, g4⟩ := hb
    refine ⟨cell, g1, g2, g3, fun j hj => ?_⟩
    rw [g4 j hj]
    show some (defaultValue (TYc x j)) = _
    obtain ⟨v1, v2⟩ := c_dv x hx j hj
    by_cases hf : fkd (TYc x j) = 1
    · rw [svO_R hf, hvr_P, if_pos rfl, v1 hf]; rfl
    · rw [svO_I hf, hvi_P, if_pos rfl, v2 hf]; rfl
  exact go hw hn rfl hC hrel hL (okS_c (v := .inr (.inl _)) trivial hS) hR (by omega) (by omega) hlo
theorem rep_at {n : Nat} {v : Value} {j : Nat} (hj : j < n) : (Array.replicate n v)[j]? = some v := by simp [hj]
theorem newa_rel {cA : ClassId} {t n : Nat} {v : Value} (hr : Rel D h H) (h20 : 20 ≤ t) (h26 : t < 26) (hn6 : n ≤ 60000) (hcA : cA = dA D t) (hv : ∀ j, svA (hpush h t n) t (hsz h) j = v) : Rel D (hpush h t n) (H.push { cls := cA, slots := Array.replicate n v, vm := .none }) := by
  refine hr.push (by simp) (fun q hq => by rw [Array.getElem?_push_lt hq]; simp [hq]) (Or.inr ⟨h20, h26, hn6, ⟨_, by rw [← hr.1]; exact Array.getElem?_push_size, hcA, rfl, by simp, fun j hj => ?_⟩, fun q j hj => ?_⟩)
  · show (Array.replicate n v)[j]? = _
    rw [rep_at hj, hv]
  · rw [hvi_P, if_pos rfl]
    exact ⟨by decide, by decide⟩
theorem newa_go {t : Nat} {at_ : ArrayType} {n : Int} {r : List mV} (ht : ety t = newarray.typeOf at_) (h20 : 20 ≤ t) (h24 : t < 24) (hb : componentBytes (ety t) ≤ 8) (hdv : defaultValue (ety t) = (if t = 23 then .long 0 else .int 0)) (hwd : (Cond.arrayClass (ety t)).before args s = true) {rp : Nat}
    (hd : decode (mB k) rp = .ok (.newarray at_, 2)) (hnR : inR n) (h0 : 0 ≤ n) (h6 : n ≤ 60000) (hb1 : 1 ≤ bc) (hb2 : n.toNat ≤ bs) (hw : simP D KX d k nx ls (.inr (.inl (some (hsz h))) :: r) (hpush h t n.toNat) (bc - 1) (bs - n.toNat) Q X) (hn : nx % 100000 = rp + 2)
    (hC : Cx D KX k p l s m args meth c) (hr : Rel D h H) (hL : okL ls LS (mL k)) (hS : okS r) (hR : Rm d R) (hbc : cells + bc ≤ R.cells) (hbs : slots + bs ≤ R.slots) (hlo : ∀ z ∈ locs, dB D ≤ z.base) :
    W p l e R s m args below meth c H locs cells slots (vx_MQ below (qQ D Q) (qX D X) args s R.cells R.slots (Ao D)) (F0 m rp LS (.int (Int32.ofInt n) :: r.map toV)) := by
  have hnn : (Int32.ofInt n).toNatClampNeg = n.toNat := i32_nat hnR h0
  have hRA := (hC.kf.2.1 t h20 (by omega)).2
  rw [ht] at hwd hb hdv hRA
  have h60 : n.toNat ≤ 60000 := by omega
  have hby : n.toNat * componentBytes (newarray.typeOf at_) ≤ 536870912 := Nat.le_trans (Nat.mul_le_mul h60 hb) (by decide)
  refine W.newa hC.1 hC.2.1 hwd rfl hd rfl (by rw [z_lt hnR]; omega) (by rw [hnn]; exact hby) (by omega) (by rw [hnn]; omega) (fun cA kA comp f1 f2 f3 => ?_)
  rw [hnn, hr.1]
  have hcA : cA = dA D t := by
    have hq : va_RA s (dA D t) (newarray.typeOf at_) → s.vm.findClass ("[" ++ (newarray.typeOf at_).toString) = some (dA D t) := by
      cases at_ <;> exact id
    exact Option.some.inj (f1.symm.trans (hq hRA))
  refine go hw hn rfl hC (newa_rel hr h20 (by omega) (by omega) hcA (fun j => ?_)) hL (okS_c (v := .inr (.inl _)) trivial hS) hR (by omega) (by omega) hlo
  rw [hdv]
  unfold svA
  rw [if_neg (by omega), hvi_P, if_pos rfl, hvl_P, if_pos rfl]
  split <;> rfl
theorem si_newarray {t : ArrayType} (ho : okE k pc (.newarray t, nx, x, y) = true) (hw : wpi (dG D) (simP D KX) (.newarray t, nx, x, y) d k pc ls st h bc bs Q X) : simP D KX d k pc ls st h bc bs Q X := by
  intro p l e R s m args below meth c H locs cells slots LS hC hr hL hS hR hbc hbs hlo
  obtain ⟨hd, hn⟩ := okE_dec ho (by simp [ilen])
  unfold okE at ho
  simp only [Bool.and_eq_true, Bool.or_eq_true, decide_eq_true_eq] at ho
  obtain ⟨-, hx, h20⟩ := ho
  match st, hw, hS with
  | .inl n :: r, hw, hS =>
    obtain ⟨⟨h0, h6⟩, ⟨hb1, hb2⟩, hv2⟩ := hw
    have hnR : inR n := okS_h hS
    cases t with
    | int => subst hx; exact newa_go rfl (by decide) (by decide) (by decide) rfl (hC.ws (c_arr 20 (by decide) (by decide)) rfl) hd hnR h0 h6 hb1 hb2 hv2 hn hC hr hL (okS_t hS) hR hbc hbs hlo
    | char => subst hx; exact newa_go rfl (by decide) (by decide) (by decide) rfl (hC.ws (c_arr 21 (by decide) (by decide)) rfl) hd hnR h0 h6 hb1 hb2 hv2 hn hC hr hL (okS_t hS) hR hbc hbs hlo
    | boolean => subst hx; exact newa_go rfl (by decide) (by decide) (by decide) rfl (hC.ws (c_arr 22 (by decide) (by decide)) rfl) hd hnR h0 h6 hb1 hb2 hv2 hn hC hr hL (okS_t hS) hR hbc hbs hlo
    | long => subst hx; exact newa_go rfl (by decide) (by decide) (by decide) rfl (hC.ws (c_arr 23 (by decide) (by decide)) rfl) hd hnR h0 h6 hb1 hb2 hv2 hn hC hr hL (okS_t hS) hR hbc hbs hlo
    | _ => exact absurd (hx ▸ h20) (by decide)
theorem anew_go {t i : Nat} {n : Int} {r : List mV} {C : String} (ht : ety t = .object C) (h24 : 24 ≤ t) (h26 : t < 26) (hao : va_AO C s) (hcl : (Cond.classLink (RRc (mC k)) i C).before args s = true) {rp : Nat}
    (hd : decode (mB k) rp = .ok (.anewarray i, 3)) (hnR : inR n) (h0 : 0 ≤ n) (h6 : n ≤ 60000) (hb1 : 1 ≤ bc) (hb2 : n.toNat ≤ bs) (hw : simP D KX d k nx ls (.inr (.inl (some (hsz h))) :: r) (hpush h t n.toNat) (bc - 1) (bs - n.toNat) Q X) (hn : nx % 100000 = rp + 3)
    (hC : Cx D KX k p l s m args meth c) (hr : Rel D h H) (hL : okL ls LS (mL k)) (hS : okS r) (hR : Rm d R) (hbc : cells + bc ≤ R.cells) (hbs : slots + bs ≤ R.slots) (hlo : ∀ z ∈ locs, dB D ≤ z.base) :
    W p l e R s m args below meth c H locs cells slots (vx_MQ below (qQ D Q) (qX D X) args s R.cells R.slots (Ao D)) (F0 m rp LS (.int (Int32.ofInt n) :: r.map toV)) := by
  have hnn : (Int32.ofInt n).toNatClampNeg = n.toNat := i32_nat hnR h0
  have hRA := (hC.kf.2.1 t (by omega) (by omega)).2
  rw [ht] at hRA
  refine W.anew hC.1 hC.2.1 hC.2.2.2.1 hcl (va_AO.use hao) rfl hd rfl (by rw [z_lt hnR]; omega) (by rw [hnn]; omega) (by omega) (by rw [hnn]; omega) (fun cA kA comp f1 f2 f3 f4 => ?_)
  rw [hnn, hr.1]
  have hcA : cA = dA D t := by
    obtain ⟨kA2, comp2, g1, g2, g3, g4⟩ := hRA
    exact Option.some.inj (f1.symm.trans g4)
  refine go hw hn rfl hC (newa_rel hr (by omega) (by omega) (by omega) hcA (fun j => ?_)) hL (okS_c (v := .inr (.inl _)) trivial hS) hR (by omega) (by omega) hlo
  unfold svA
  rw [if_pos (by omega), hvr_P, if_pos rfl]
  rfl
theorem si_anewarray {i : Nat} (ho : okE k pc (.anewarray i, nx, x, y) = true) (hw : wpi (dG D) (simP D KX) (.anewarray i, nx, x, y) d k pc ls st h bc bs Q X) : simP D KX d k pc ls st h bc bs Q X := by
  intro p l e R s m args below meth c H locs cells slots LS hC hr hL hS hR hbc hbs hlo
  obtain ⟨hd, hn⟩ := okE_dec ho (by simp [ilen])
  unfold okE at ho
  simp only [Bool.and_eq_true, Bool.or_eq_true, decide_eq_true_eq] at ho
  obtain ⟨-, ho⟩ := ho
  match st, hw, hS with
  | .inl n :: r, hw, hS =>
    obtain ⟨⟨h0, h6⟩, ⟨hb1, hb2⟩, hv2⟩ := hw
    have hnR : inR n := okS_h hS
    rcases ho with ⟨rfl, hl⟩ | ⟨rfl, hl⟩
    · exact anew_go rfl (by decide) (by decide) hC.kf.2.2.2.2.2.2.2.1.1 (hC.ws hl rfl) hd hnR h0 h6 hb1 hb2 hv2 hn hC hr hL (okS_t hS) hR hbc hbs hlo
    · exact anew_go rfl (by decide) (by decide) hC.kf.2.2.2.2.2.2.2.1.2 (hC.ws hl rfl) hd hnR h0 h6 hb1 hb2 hv2 hn hC hr hL (okS_t hS) hR hbc hbs hlo
theorem el_obj {t : Nat} (h : t = 24 ∨ t = 25) : ety t = .object (RRc (elT t)) ∧ elT t < 12 := by rcases h with rfl | rfl <;> exact ⟨rfl, by decide⟩
theorem aast_rel {a i t n : Nat} {q : Option Nat} {cell : Cell} {H' : Heap} (hr : Rel D h H) (hB : dB D ≤ a) (ht : hty h a = some (t, n)) (htt : t = 24 ∨ t = 25) (hn6 : n ≤ 60000) (c2 : cell.cls = dA D t) (c3 : cell.vm = .none) (c4 : cell.slots.size = n) (c5 : ∀ j, j < n → cell.slots[j]? = some (svA h t a j)) (hin : i < n)
    (e1 : H'[a]? = some (cell.setSlot i (va_rf q))) (e2 : H'.size = H.size) (e3 : ∀ b, b ≠ a → H'[b]? = H[b]?) : Rel D (hsetR h a i q) H' := by
  refine hr.upd hB ht rfl (fun b => rfl) (fun b hb j => rfl) (fun b hb j => ?_) (fun b hb j => rfl) (fun j => hr.2.2.1 a j) (fun j => hr.2.2.2.1 a j) e2 e3 (Or.inr ⟨by omega, by omega, hn6, CellA.set c2 c3 c4 c5 hin e1 ?_ (fun j hj => ?_), fun z => by omega⟩)
  · rw [hvr_R, if_neg (fun z => hb z.1)]
  · unfold svA
    rw [if_pos htt, hvr_R, if_pos ⟨rfl, rfl⟩]
  · unfold svA
    rw [if_pos htt, if_pos htt, hvr_R, if_neg (fun z => hj z.2)]
theorem si_aastore (ho : okE k pc (.aastore, nx, x, y) = true) (hw : wpi (dG D) (simP D KX) (.aastore, nx, x, y) d k pc ls st h bc bs Q X) : simP D KX d k pc ls st h bc bs Q X := by
  intro p l e R s m args below meth c H locs cells slots LS hC hr hL hS hR hbc hbs hlo
  obtain ⟨hd, hn⟩ := okE_dec ho (by simp [ilen])
  match st, hw, hS with
  | .inr (.inl q) :: .inl i :: .inr (.inl (some a)) :: r, hw, hS =>
    unfold wpi at hw
    dsimp only at hw
    split at hw
    · rename_i t n ht
      obtain ⟨htt, ⟨h0, h1⟩, hq, hw⟩ := hw
      have hiR : inR i := okS_h (okS_t hS)
      obtain ⟨hB, hn6, ⟨cell, c1, c2, c3, c4, c5⟩, hch⟩ := hr.arr hC.kf ht (by omega) (by omega)
      obtain ⟨hA, hRA⟩ := hC.kf.2.1 t (by omega) (by omega)
      obtain ⟨he, h12⟩ := el_obj htt
      rw [he] at hA hRA
      have hin : i.toNat < n := by omega
      have hlo' : ∀ z ∈ locs ++ [(⟨a, i.toNat⟩ : Loc)], dB D ≤ z.base := fun z hz => (List.mem_append.mp hz).elim (hlo z) (fun q => by rw [List.mem_singleton.mp q]; exact hB)
      cases q with
      | none =>
        have harr : s.isArrayOf cell (.object (RRc (elT t))) := ⟨fun q => by rw [c3]; exact vm_s q, by rw [c2]; exact (hA 0 (fun _ => .null)).2⟩
        refine va_WaastN hC.1 hC.2.1 c1 harr (by rw [c3]; exact vm_u) (in_idx hiR h0 h1 (by omega)) rfl rfl hd (fun H' e1 e2 e3 => ?_)
        rw [i32_nat hiR h0] at e1 ⊢
        exact go hw hn rfl hC (aast_rel (q := none) hr hB ht htt hn6 c2 c3 c4 c5 hin e1 e2 e3) hL (okS_t (okS_t (okS_t hS))) hR hbc hbs hlo'
      | some b =>
        obtain ⟨n', hb⟩ := hq b rfl
        obtain ⟨-, -, cb, b1, b2, b3, -⟩ := hr.own hC.kf hb h12
        have hcls := (hC.kf.1 (elT t) h12).2
        obtain ⟨kA, comp, k1, k2, k3, -⟩ := hRA
        have hcomp : comp = dC D (elT t) := Option.some.inj (k3.symm.trans hcls.1)
        subst hcomp
        obtain ⟨kC, hkC, -⟩ := id hcls.2
        refine W.aast hC.1 hC.2.1 c1 (fun q h => by rw [c3] at h; cases h) (fun h => by rw [c3] at h; cases h) (by rw [c2]; exact k1) k2 rfl hkC ⟨by rw [z_lt hiR]; omega, by rw [i32_nat hiR h0]; omega⟩ b1 (fun q h => by rw [b3] at h; cases h) (by rw [b2]; exact hkC) (by rw [b2]; exact va_assign hcls) rfl rfl hd (fun H' e1 e2 e3 => ?_)
        rw [i32_nat hiR h0] at e1 ⊢
        exact go hw hn rfl hC (aast_rel (q := some b) hr hB ht htt hn6 c2 c3 c4 c5 hin e1 e2 e3) hL (okS_t (okS_t (okS_t hS))) hR hbc hbs hlo'
    · exact hw.elim
theorem str_go {i q : Nat} (hm : (mC k, i, q) ∈ sRf) (hC : Cx D KX k p l s m args meth c) {rp : Nat} {Qs : State → Prop} {rest : List Value} (hd : decode (mB k) rp = .ok (.ldc i, 2)) (kk : W p l e R s m args below meth c H locs cells slots Qs (F0 m (rp + 2) LS (.ref (dG D q) :: rest))) :
    W p l e R s m args below meth c H locs cells slots Qs (F0 m rp LS rest) := by
  have hz := hC.kf.2.2.2.2.2.2.1 _ hm
  dsimp only at hz
  exact va_ldcS hC.1 hC.2.1 hC.2.2.2.1 hz hd kk
theorem si_ldc {i : Nat} (ho : okE k pc (.ldc i, nx, x, y) = true) (hw : wpi (dG D) (simP D KX) (.ldc i, nx, x, y) d k pc ls st h bc bs Q X) : simP D KX d k pc ls st h bc bs Q X := by
  intro p l e R s m args below meth c H locs cells slots LS hC hr hL hS hR hbc hbs hlo
  obtain ⟨hd, hn⟩ := okE_dec ho (by simp [ilen])
  unfold okE at ho
  simp only [Bool.and_eq_true, Bool.or_eq_true, decide_eq_true_eq] at ho
  obtain ⟨-, ho⟩ := ho
  rcases ho with ⟨hx, ho⟩ | ⟨hx, ho⟩
  · subst hx
    match y, ho, hw with
    | [v], ho, hw2 =>
      simp only [Bool.and_eq_true] at ho
      exact lv_ldc hC.1 hC.2.1 hC.2.2.2.1 (hC.ws ho.2 rfl) hd (go hw2 hn rfl hC hr hL (okS_c (v := .inl (v : Int)) (inRb_ok ho.1) hS) hR hbc hbs hlo)
  · subst hx
    match y, ho, hw with
    | [q], ho, hw2 =>
      simp only [decide_eq_true_eq] at ho
      exact str_go ho hC hd (go hw2 hn rfl hC hr hL (okS_c (v := .inr (.inl _)) trivial hS) hR hbc hbs hlo)
theorem si_ldc_w {i v : Nat} (ho : okE k pc (.ldc_w i, nx, x, [v]) = true) (hw : wpi (dG D) (simP D KX) (.ldc_w i, nx, x, [v]) d k pc ls st h bc bs Q X) : simP D KX d k pc ls st h bc bs Q X := by
  intro p l e R s m args below meth c H locs cells slots LS hC hr hL hS hR hbc hbs hlo
  obtain ⟨hd, hn⟩ := okE_dec ho (by simp [ilen])
  unfold okE at ho
  simp only [Bool.and_eq_true, Bool.or_eq_true, decide_eq_true_eq] at ho
  obtain ⟨-, ⟨rfl, hv⟩, hl⟩ := ho
  exact lv_ldcw hC.1 hC.2.1 hC.2.2.2.1 (hC.ws hl rfl) hd (go hw hn rfl hC hr hL (okS_c (v := .inl (v : Int)) (inRb_ok hv) hS) hR hbc hbs hlo)
theorem st_get {C n ds : String} {v : Value} {i : Nat} (hZ : va_Z C n ds v (Ao D) s (dH D)) (hC : Cx D KX k p l s m args meth c) (hr : Rel D h H) (hlink : (Cond.fieldLink (RRc (mC k)) i C n ds).before args s = true) {rp : Nat} {Qs : State → Prop} {rest : List Value} (hd : decode (mB k) rp = .ok (.getstatic i, 3))
    (kk : W p l e R s m args below meth c H locs cells slots Qs (F0 m (rp + 3) LS (v :: rest))) : W p l e R s m args below meth c H locs cells slots Qs (F0 m rp LS rest) := by
  obtain ⟨cf, kf, fi, f, a, cell, h1, h2, h3, h4, h5, h6, h7, h8⟩ := hZ
  exact W.gets hC.1 hC.2.1 hC.2.2.2.1 hlink h1 h2 h3 h4 (by rw [hr.2.2.2.2.1 a (Nat.not_le.mp h8)]; exact h5) (fun e => by rw [e] at h6; cases h6) h7 rfl hd kk
theorem si_getstatic {i : Nat} (ho : okE k pc (.getstatic i, nx, x, y) = true) (hw : wpi (dG D) (simP D KX) (.getstatic i, nx, x, y) d k pc ls st h bc bs Q X) : simP D KX d k pc ls st h bc bs Q X := by
  intro p l e R s m args below meth c H locs cells slots LS hC hr hL hS hR hbc hbs hlo
  obtain ⟨hd, hn⟩ := okE_dec ho (by simp [ilen])
  unfold okE at ho
  simp only [Bool.and_eq_true, Bool.or_eq_true, decide_eq_true_eq] at ho
  obtain ⟨-, ho⟩ := ho
  rcases ho with (⟨rfl, hl⟩ | ⟨rfl, hl⟩) | ⟨rfl, hl⟩
  · exact st_get hC.kf.2.2.2.1 hC hr (hC.ws hl rfl) hd (go hw hn rfl hC hr hL (okS_c (v := .inr (.inl _)) trivial hS) hR hbc hbs hlo)
  · exact st_get hC.kf.2.2.2.2.1 hC hr (hC.ws hl rfl) hd (go hw hn rfl hC hr hL (okS_c (v := .inl 1) (show inR 1 from ⟨by decide, by decide⟩) hS) hR hbc hbs hlo)
  · rcases hC.kf.2.2.2.2.2.1 with hZ | ⟨t, hZ⟩
    · exact st_get hZ hC hr (hC.ws hl rfl) hd (go (hw none) hn rfl hC hr hL (okS_c (v := .inr (.inl _)) trivial hS) hR hbc hbs hlo)
    · exact st_get hZ hC hr (hC.ws hl rfl) hd (go (hw (some t)) hn rfl hC hr hL (okS_c (v := .inr (.inl _)) trivial hS) hR hbc hbs hlo)
theorem nar_byte {z : Int} (h0 : -128 ≤ z) (h1 : z < 128) : narrow .byte (.int (Int32.ofInt z)) = .int (Int32.ofInt z) := by
  show Value.int ((Int32.ofInt z).toInt8.toInt32) = _
  congr 1
  apply Int32.toInt_inj.mp
  rw [Int8.toInt_toInt32, Int32.toInt_toInt8, i32_toInt ⟨by omega, by omega⟩]
  exact Int.bmod_eq_of_le (by omega) (by omega)
theorem rt_ret (hC : Cx D KX k p l s m args meth c) (hr : Rel D h H) {v : Option mV} (hQ : Q v h) (hok : ∀ z, v = some z → okV z ∧ (toV z).category = 1) : ∀ t : State, t.heap = H → s.WarmedH t.vm → qQ D Q args s (.returned (v.map toV)) t :=
  fun t ht _ => ⟨v, h, rfl, hQ, by rw [ht]; exact hr, hok⟩
theorem si_ireturn (ho : okE k pc (.ireturn, nx, x, y) = true) (hw : wpi (dG D) (simP D KX) (.ireturn, nx, x, y) d k pc ls st h bc bs Q X) : simP D KX d k pc ls st h bc bs Q X := by
  intro p l e R s m args below meth c H locs cells slots LS hC hr hL hS hR hbc hbs hlo
  obtain ⟨hd, hn⟩ := okE_dec ho (by simp [ilen])
  unfold okE at ho
  simp only [Bool.and_eq_true, Bool.or_eq_true, decide_eq_true_eq] at ho
  obtain ⟨-, hx, hx9⟩ := ho
  match st, hw, hS with
  | [.inl z], hw, hS =>
    obtain ⟨hz, hQ⟩ := hw
    have hzR : inR z := okS_h hS
    have hrt := rt_ret hC hr hQ (v := some (.inl z)) (fun w hw => by cases hw; exact ⟨hzR, rfl⟩)
    have hf : ∀ q ∈ locs, Ao D q.base := hlo
    refine vx_ret (W.widen (k := R.cells) (n := R.slots) (by omega) (by omega) ?_)
    have hrty := hC.2.2.2.2.2.2.1
    cases hq : mR k with
    | none => rw [hq] at hx; subst hx; exact absurd hx9 (by decide)
    | some ty =>
      rw [hq] at hx hrty
      refine W.zret hC.1 hC.2.1 (ty := ty) hrty ?_ hrt hf hd (hlocks := hC.2.2.2.2.2.1)
      cases ty <;> subst hx <;> first | rfl | exact nar_bool hz | exact nar_char hz.1 hz.2 | exact nar_byte hz.1 hz.2 | exact absurd hx9 (by decide)
theorem si_areturn (ho : okE k pc (.areturn, nx, x, y) = true) (hw : wpi (dG D) (simP D KX) (.areturn, nx, x, y) d k pc ls st h bc bs Q X) : simP D KX d k pc ls st h bc bs Q X := by
  intro p l e R s m args below meth c H locs cells slots LS hC hr hL hS hR hbc hbs hlo
  obtain ⟨hd, hn⟩ := okE_dec ho (by simp [ilen])
  unfold okE at ho
  simp only [Bool.and_eq_true, Bool.or_eq_true, decide_eq_true_eq] at ho
  obtain ⟨-, hx⟩ := ho
  match st, hw, hS with
  | [.inr (.inl q)], hw, hS =>
    have hrt := rt_ret hC hr hw (v := some (.inr (.inl q))) (fun w hw => by cases hw; exact ⟨trivial, va_rf_cat q⟩)
    have hrty := hC.2.2.2.2.2.2.1
    refine vx_ret (W.widen (k := R.cells) (n := R.slots) (by omega) (by omega) ?_)
    have hv : va_rf q = .null ∨ ∃ a, va_rf q = .ref a := by cases q with
      | none => exact Or.inl rfl
      | some a => exact Or.inr ⟨a, rfl⟩
    rcases hx with (hq | hq) | hq
    · exact W.aret hC.1 hC.2.1 (hrty.trans hq) (Or.inr ⟨_, rfl⟩) hv hrt hlo hd (hlocks := hC.2.2.2.2.2.1)
    · exact W.aret hC.1 hC.2.1 (hrty.trans hq) (Or.inl ⟨_, rfl⟩) hv hrt hlo hd (hlocks := hC.2.2.2.2.2.1)
    · exact W.aret hC.1 hC.2.1 (hrty.trans hq) (Or.inl ⟨_, rfl⟩) hv hrt hlo hd (hlocks := hC.2.2.2.2.2.1)
theorem si_return (ho : okE k pc (.return_, nx, x, y) = true) (hw : wpi (dG D) (simP D KX) (.return_, nx, x, y) d k pc ls st h bc bs Q X) : simP D KX d k pc ls st h bc bs Q X := by
  intro p l e R s m args below meth c H locs cells slots LS hC hr hL hS hR hbc hbs hlo
  obtain ⟨hd, hn⟩ := okE_dec ho (by simp [ilen])
  unfold okE at ho
  simp only [Bool.and_eq_true, Bool.or_eq_true, decide_eq_true_eq] at ho
  obtain ⟨-, hx⟩ := ho
  match st, hw, hS with
  | [], hw, hS =>
    have hrt := rt_ret hC hr hw (v := none) (fun w hw => nomatch hw)
    exact vx_ret (W.widen (k := R.cells) (n := R.slots) (by omega) (by omega) (W.vret hC.1 hC.2.1 (hC.2.2.2.2.2.2.1.trans hx) hrt hlo hd (hlocks := hC.2.2.2.2.2.1)))
end Sim
