section Sim
variable {D : mD} {KX : State → Prop} {d k pc nx x : Nat} {y : List Nat} {ls : List (Option mV)} {st : List mV} {h : mH} {bc bs : Nat} {Q : mQ} {X : mX}
variable {p : Program} {l : Launch} {e : Env} {R : Room} {s : State} {m : MethodId} {args : Array Value} {below : List Frame} {meth : Method} {c : Code} {H : Heap} {locs : List Loc} {cells slots : Nat} {LS : Array Slot}
theorem ch_id {a : Int} (h0 : 0 ≤ a) (h1 : a < 65536) : ((Int32.ofInt a).toUInt32 % 65536).toInt32 = Int32.ofInt a := by
  obtain ⟨n, rfl⟩ := Int.eq_ofNat_of_zero_le h0
  have hn : n < 65536 := by omega
  have e1 : (Int32.ofInt (n : Int)).toUInt32 = UInt32.ofNat n := rfl
  rw [e1]
  have e2 : UInt32.ofNat n % 65536 = UInt32.ofNat n := by
    apply UInt32.toNat_inj.mp
    rw [UInt32.toNat_mod, UInt32.toNat_ofNat_of_lt' (show n < 4294967296 by omega)]
    exact Nat.mod_eq_of_lt hn
  rw [e2]
  rfl
theorem i32_z : (0 : Int32) = Int32.ofInt 0 := by decide
theorem si_i2c (ho : okE k pc (.i2c, nx, x, y) = true) (hw : wpi (dG D) (simP D KX) (.i2c, nx, x, y) d k pc ls st h bc bs Q X) : simP D KX d k pc ls st h bc bs Q X := by
  intro p l e R s m args below meth c H locs cells slots LS hC hr hL hS hR hbc hbs hlo
  obtain ⟨hd, hn⟩ := okE_dec ho (by simp [ilen])
  match st, hw, hS with
  | .inl a :: r, hw, hS =>
    obtain ⟨⟨h0, h1⟩, hw⟩ := hw
    refine lv_i2c hC.1 hC.2.1 hd (v := Int32.ofInt a) ?_ (go hw hn rfl hC hr hL hS hR hbc hbs hlo)
    exact ch_id h0 h1
theorem si_i2l (ho : okE k pc (.i2l, nx, x, y) = true) (hw : wpi (dG D) (simP D KX) (.i2l, nx, x, y) d k pc ls st h bc bs Q X) : simP D KX d k pc ls st h bc bs Q X := by
  intro p l e R s m args below meth c H locs cells slots LS hC hr hL hS hR hbc hbs hlo
  obtain ⟨hd, hn⟩ := okE_dec ho (by simp [ilen])
  match st, hw, hS with
  | .inl a :: r, hw, hS =>
    have haR : inR a := okS_h hS
    refine lv_i2l hC.1 hC.2.1 hd (v := Int64.ofInt a) ?_ (go hw hn rfl hC hr hL (okS_c (v := .inr (.inr a)) (show inL a from ⟨by have := haR.1; omega, by have := haR.2; omega⟩) (okS_t hS)) hR hbc hbs hlo)
    apply Int64.toInt_inj.mp
    rw [Int32.toInt_toInt64, i32_toInt haR, Int64.toInt_ofInt_of_le (by have := haR.1; omega) (by have := haR.2; omega)]
theorem si_lcmp (ho : okE k pc (.lcmp, nx, x, y) = true) (hw : wpi (dG D) (simP D KX) (.lcmp, nx, x, y) d k pc ls st h bc bs Q X) : simP D KX d k pc ls st h bc bs Q X := by
  intro p l e R s m args below meth c H locs cells slots LS hC hr hL hS hR hbc hbs hlo
  obtain ⟨hd, hn⟩ := okE_dec ho (by simp [ilen])
  match st, hw, hS with
  | .inr (.inr b) :: .inr (.inr a) :: r, hw, hS =>
    have hb : inL b := okS_h hS
    have ha : inL a := okS_h (okS_t hS)
    refine W.lcmp hC.1 hC.2.1 hd ?_
    have ta : (Int64.ofInt a).toInt = a := Int64.toInt_ofInt_of_le (by have := ha.1; omega) (by have := ha.2; omega)
    have tb : (Int64.ofInt b).toInt = b := Int64.toInt_ofInt_of_le (by have := hb.1; omega) (by have := hb.2; omega)
    have he : lg_cmp (Int64.ofInt a) (Int64.ofInt b) = Int32.ofInt (cmpL a b) := by
      unfold lg_cmp cmpL
      simp only [gt_iff_lt, Int64.lt_iff_toInt_lt, ← Int64.toInt_inj, ta, tb]
      by_cases h1 : a < b
      · rw [if_neg (show ¬ b < a by omega), if_neg (show ¬ a = b by omega), if_pos h1]; rfl
      · rw [show (if a < b then (-1 : Int) else if a = b then 0 else 1) = (if a = b then 0 else 1) from if_neg h1]
        by_cases h2 : a = b
        · rw [if_neg (show ¬ b < a by omega), if_pos h2, if_pos h2]; rfl
        · rw [if_pos (show b < a by omega), if_neg h2]; rfl
    rw [he]
    refine go hw hn rfl hC hr hL (okS_c (v := .inl (cmpL a b)) (show inR (cmpL a b) from ?_) (okS_t (okS_t hS))) hR hbc hbs hlo
    unfold cmpL
    constructor <;> (repeat' split) <;> omega
theorem si_dup (ho : okE k pc (.dup, nx, x, y) = true) (hw : wpi (dG D) (simP D KX) (.dup, nx, x, y) d k pc ls st h bc bs Q X) : simP D KX d k pc ls st h bc bs Q X := by
  intro p l e R s m args below meth c H locs cells slots LS hC hr hL hS hR hbc hbs hlo
  obtain ⟨hd, hn⟩ := okE_dec ho (by simp [ilen])
  match st, hw, hS with
  | .inl a :: r, hw, hS => exact lv_dup hC.1 hC.2.1 hd rfl (go hw hn rfl hC hr hL (okS_c (okS_h hS) hS) hR hbc hbs hlo)
  | .inr (.inl a) :: r, hw, hS => exact lv_dup hC.1 hC.2.1 hd (va_rf_cat a) (go hw hn rfl hC hr hL (okS_c (okS_h hS) hS) hR hbc hbs hlo)
theorem si_dup2 (ho : okE k pc (.dup2, nx, x, y) = true) (hw : wpi (dG D) (simP D KX) (.dup2, nx, x, y) d k pc ls st h bc bs Q X) : simP D KX d k pc ls st h bc bs Q X := by
  intro p l e R s m args below meth c H locs cells slots LS hC hr hL hS hR hbc hbs hlo
  obtain ⟨hd, hn⟩ := okE_dec ho (by simp [ilen])
  match st, hw, hS with
  | .inl a :: .inr (.inl b) :: r, hw, hS => exact lv_dup2_11 hC.1 hC.2.1 hd rfl (va_rf_cat b) (go hw hn rfl hC hr hL (okS_c (okS_h hS) (okS_c (okS_h (okS_t hS)) hS)) hR hbc hbs hlo)
theorem si_pop (ho : okE k pc (.pop, nx, x, y) = true) (hw : wpi (dG D) (simP D KX) (.pop, nx, x, y) d k pc ls st h bc bs Q X) : simP D KX d k pc ls st h bc bs Q X := by
  intro p l e R s m args below meth c H locs cells slots LS hC hr hL hS hR hbc hbs hlo
  obtain ⟨hd, hn⟩ := okE_dec ho (by simp [ilen])
  match st, hw, hS with
  | .inl a :: r, hw, hS => exact lv_pop hC.1 hC.2.1 hd rfl (go hw hn rfl hC hr hL (okS_t hS) hR hbc hbs hlo)
  | .inr (.inl a) :: r, hw, hS => exact lv_pop hC.1 hC.2.1 hd (va_rf_cat a) (go hw hn rfl hC hr hL (okS_t hS) hR hbc hbs hlo)
theorem si_goto {o : Int} (ho : okE k pc (.goto o, nx, x, y) = true) (hw : wpi (dG D) (simP D KX) (.goto o, nx, x, y) d k pc ls st h bc bs Q X) : simP D KX d k pc ls st h bc bs Q X := by
  intro p l e R s m args below meth c H locs cells slots LS hC hr hL hS hR hbc hbs hlo
  obtain ⟨hd, hn⟩ := okE_dec ho (by simp [ilen])
  have ht : ((pc % 100000 : Nat) : Int) + o = ((x % 100000 : Nat) : Int) := by unfold okE at ho; simp only [Bool.and_eq_true, decide_eq_true_eq] at ho; exact ho.2
  exact lv_goto hC.1 hC.2.1 hd ht (go hw rfl rfl hC hr hL hS hR hbc hbs hlo)
theorem z_eq {a : Int} (ha : inR a) : Int32.ofInt a = 0 ↔ a = 0 := by rw [i32_z]; exact i32_eq ha inR0
theorem z_lt {a : Int} (ha : inR a) : Int32.ofInt a < 0 ↔ a < 0 := by rw [i32_z]; exact i32_lt ha inR0
theorem z_gt {a : Int} (ha : inR a) : 0 < Int32.ofInt a ↔ 0 < a := by rw [i32_z]; exact i32_lt inR0 ha
theorem z_le {a : Int} (ha : inR a) : Int32.ofInt a ≤ 0 ↔ ¬ 0 < a := by rw [i32_z, i32_le ha inR0]; omega
theorem z_ge {a : Int} (ha : inR a) : 0 ≤ Int32.ofInt a ↔ ¬ a < 0 := by rw [i32_z, i32_le inR0 ha]; omega
theorem w_le {a b : Int} (ha : inR a) (hb : inR b) : Int32.ofInt a ≤ Int32.ofInt b ↔ ¬ b < a := by rw [i32_le ha hb]; omega
theorem si_if {cn : ClassFile.Cond} {o : Int} (ho : okE k pc (.ifCond cn o, nx, x, y) = true) (hw : wpi (dG D) (simP D KX) (.ifCond cn o, nx, x, y) d k pc ls st h bc bs Q X) : simP D KX d k pc ls st h bc bs Q X := by
  intro p l e R s m args below meth c H locs cells slots LS hC hr hL hS hR hbc hbs hlo
  obtain ⟨hd, hn⟩ := okE_dec ho (by simp [ilen])
  have ht : ((pc % 100000 : Nat) : Int) + o = ((x % 100000 : Nat) : Int) := by unfold okE at ho; simp only [Bool.and_eq_true, decide_eq_true_eq] at ho; exact ho.2
  match st, hw, hS with
  | .inl a :: r, hw, hS =>
    have haR : inR a := okS_h hS
    cases cn with
    | eq => exact lv_if_eq hC.1 hC.2.1 hd ht (fun q => go (hw.1 ((z_eq haR).mp q)) rfl rfl hC hr hL (okS_t hS) hR hbc hbs hlo) (fun q => go (hw.2 (fun z => q ((z_eq haR).mpr z))) hn rfl hC hr hL (okS_t hS) hR hbc hbs hlo)
    | ne => exact lv_if_ne hC.1 hC.2.1 hd ht (fun q => go (hw.1 (fun z => q ((z_eq haR).mpr z))) rfl rfl hC hr hL (okS_t hS) hR hbc hbs hlo) (fun q => go (hw.2 ((z_eq haR).mp q)) hn rfl hC hr hL (okS_t hS) hR hbc hbs hlo)
    | lt => exact lv_if_lt hC.1 hC.2.1 hd ht (fun q => go (hw.1 ((z_lt haR).mp q)) rfl rfl hC hr hL (okS_t hS) hR hbc hbs hlo) (fun q => go (hw.2 (fun z => q ((z_lt haR).mpr z))) hn rfl hC hr hL (okS_t hS) hR hbc hbs hlo)
    | ge => exact lv_if_ge hC.1 hC.2.1 hd ht (fun q => go (hw.1 ((z_ge haR).mp q)) rfl rfl hC hr hL (okS_t hS) hR hbc hbs hlo) (fun q => go (hw.2 (Decidable.not_not.mp fun z => q ((z_ge haR).mpr z))) hn rfl hC hr hL (okS_t hS) hR hbc hbs hlo)
    | gt => exact lv_if_gt hC.1 hC.2.1 hd ht (fun q => go (hw.1 ((z_gt haR).mp q)) rfl rfl hC hr hL (okS_t hS) hR hbc hbs hlo) (fun q => go (hw.2 (fun z => q ((z_gt haR).mpr z))) hn rfl hC hr hL (okS_t hS) hR hbc hbs hlo)
    | le => exact lv_if_le hC.1 hC.2.1 hd ht (fun q => go (hw.1 ((z_le haR).mp q)) rfl rfl hC hr hL (okS_t hS) hR hbc hbs hlo) (fun q => go (hw.2 (Decidable.not_not.mp fun z => q ((z_le haR).mpr z))) hn rfl hC hr hL (okS_t hS) hR hbc hbs hlo)
theorem si_icmp {cn : ClassFile.Cond} {o : Int} (ho : okE k pc (.if_icmp cn o, nx, x, y) = true) (hw : wpi (dG D) (simP D KX) (.if_icmp cn o, nx, x, y) d k pc ls st h bc bs Q X) : simP D KX d k pc ls st h bc bs Q X := by
  intro p l e R s m args below meth c H locs cells slots LS hC hr hL hS hR hbc hbs hlo
  obtain ⟨hd, hn⟩ := okE_dec ho (by simp [ilen])
  have ht : ((pc % 100000 : Nat) : Int) + o = ((x % 100000 : Nat) : Int) := by unfold okE at ho; simp only [Bool.and_eq_true, decide_eq_true_eq] at ho; exact ho.2
  match st, hw, hS with
  | .inl b :: .inl a :: r, hw, hS =>
    have hbR : inR b := okS_h hS
    have haR : inR a := okS_h (okS_t hS)
    cases cn with
    | eq => exact lv_icmp_eq hC.1 hC.2.1 hd ht (fun q => go (hw.1 ((i32_eq haR hbR).mp q)) rfl rfl hC hr hL (okS_t (okS_t hS)) hR hbc hbs hlo) (fun q => go (hw.2 (fun z => q ((i32_eq haR hbR).mpr z))) hn rfl hC hr hL (okS_t (okS_t hS)) hR hbc hbs hlo)
    | ne => exact lv_icmp_ne hC.1 hC.2.1 hd ht (fun q => go (hw.1 (fun z => q ((i32_eq haR hbR).mpr z))) rfl rfl hC hr hL (okS_t (okS_t hS)) hR hbc hbs hlo) (fun q => go (hw.2 ((i32_eq haR hbR).mp q)) hn rfl hC hr hL (okS_t (okS_t hS)) hR hbc hbs hlo)
    | lt => exact lv_icmp_lt hC.1 hC.2.1 hd ht (fun q => go (hw.1 ((i32_lt haR hbR).mp q)) rfl rfl hC hr hL (okS_t (okS_t hS)) hR hbc hbs hlo) (fun q => go (hw.2 (fun z => q ((i32_lt haR hbR).mpr z))) hn rfl hC hr hL (okS_t (okS_t hS)) hR hbc hbs hlo)
    | ge => exact lv_icmp_ge hC.1 hC.2.1 hd ht (fun q => go (hw.1 ((w_le hbR haR).mp q)) rfl rfl hC hr hL (okS_t (okS_t hS)) hR hbc hbs hlo) (fun q => go (hw.2 (Decidable.not_not.mp fun z => q ((w_le hbR haR).mpr z))) hn rfl hC hr hL (okS_t (okS_t hS)) hR hbc hbs hlo)
    | gt => exact lv_icmp_gt hC.1 hC.2.1 hd ht (fun q => go (hw.1 ((i32_lt hbR haR).mp q)) rfl rfl hC hr hL (okS_t (okS_t hS)) hR hbc hbs hlo) (fun q => go (hw.2 (fun z => q ((i32_lt hbR haR).mpr z))) hn rfl hC hr hL (okS_t (okS_t hS)) hR hbc hbs hlo)
    | le => exact lv_icmp_le hC.1 hC.2.1 hd ht (fun q => go (hw.1 ((w_le haR hbR).mp q)) rfl rfl hC hr hL (okS_t (okS_t hS)) hR hbc hbs hlo) (fun q => go (hw.2 (Decidable.not_not.mp fun z => q ((w_le haR hbR).mpr z))) hn rfl hC hr hL (okS_t (okS_t hS)) hR hbc hbs hlo)
theorem si_acmp {cn : ACond} {o : Int} (ho : okE k pc (.if_acmp cn o, nx, x, y) = true) (hw : wpi (dG D) (simP D KX) (.if_acmp cn o, nx, x, y) d k pc ls st h bc bs Q X) : simP D KX d k pc ls st h bc bs Q X := by
  intro p l e R s m args below meth c H locs cells slots LS hC hr hL hS hR hbc hbs hlo
  obtain ⟨hd, hn⟩ := okE_dec ho (by simp [ilen])
  have ht : ((pc % 100000 : Nat) : Int) + o = ((x % 100000 : Nat) : Int) := by unfold okE at ho; simp only [Bool.and_eq_true, decide_eq_true_eq] at ho; exact ho.2
  match st, hw, hS with
  | .inr (.inl b) :: .inr (.inl a) :: r, hw, hS =>
    cases cn with
    | eq => exact lv_acmp_eq hC.1 hC.2.1 hd ht (fun q => go (hw.1 q) rfl rfl hC hr hL (okS_t (okS_t hS)) hR hbc hbs hlo) (fun q => go (hw.2 q) hn rfl hC hr hL (okS_t (okS_t hS)) hR hbc hbs hlo)
    | ne => exact lv_acmp_ne hC.1 hC.2.1 hd ht (fun q => go (hw.1 q) rfl rfl hC hr hL (okS_t (okS_t hS)) hR hbc hbs hlo) (fun q => go (hw.2 q) hn rfl hC hr hL (okS_t (okS_t hS)) hR hbc hbs hlo)
theorem si_ifnull {o : Int} (ho : okE k pc (.ifnull o, nx, x, y) = true) (hw : wpi (dG D) (simP D KX) (.ifnull o, nx, x, y) d k pc ls st h bc bs Q X) : simP D KX d k pc ls st h bc bs Q X := by
  intro p l e R s m args below meth c H locs cells slots LS hC hr hL hS hR hbc hbs hlo
  obtain ⟨hd, hn⟩ := okE_dec ho (by simp [ilen])
  have ht : ((pc % 100000 : Nat) : Int) + o = ((x % 100000 : Nat) : Int) := by unfold okE at ho; simp only [Bool.and_eq_true, decide_eq_true_eq] at ho; exact ho.2
  match st, hw, hS with
  | .inr (.inl none) :: r, hw, hS => exact lv_ifnullN hC.1 hC.2.1 hd ht (go (hw.1 rfl) rfl rfl hC hr hL (okS_t hS) hR hbc hbs hlo)
  | .inr (.inl (some a)) :: r, hw, hS => exact lv_ifnull hC.1 hC.2.1 hd (go (hw.2 (fun z => nomatch z)) hn rfl hC hr hL (okS_t hS) hR hbc hbs hlo)
theorem si_ifnonnull {o : Int} (ho : okE k pc (.ifnonnull o, nx, x, y) = true) (hw : wpi (dG D) (simP D KX) (.ifnonnull o, nx, x, y) d k pc ls st h bc bs Q X) : simP D KX d k pc ls st h bc bs Q X := by
  intro p l e R s m args below meth c H locs cells slots LS hC hr hL hS hR hbc hbs hlo
  obtain ⟨hd, hn⟩ := okE_dec ho (by simp [ilen])
  have ht : ((pc % 100000 : Nat) : Int) + o = ((x % 100000 : Nat) : Int) := by unfold okE at ho; simp only [Bool.and_eq_true, decide_eq_true_eq] at ho; exact ho.2
  match st, hw, hS with
  | .inr (.inl none) :: r, hw, hS => exact lv_ifnonnullN hC.1 hC.2.1 hd (go (hw.2 rfl) hn rfl hC hr hL (okS_t hS) hR hbc hbs hlo)
  | .inr (.inl (some a)) :: r, hw, hS => exact lv_ifnonnull hC.1 hC.2.1 hd ht (go (hw.1 (fun z => nomatch z)) rfl rfl hC hr hL (okS_t hS) hR hbc hbs hlo)
theorem swl_at {N : Nat → Prop} : ∀ (ts : List Nat) (lo z : Int) (j t : Nat), swl N lo ts z → ts[j]? = some t → z = lo + j → N t
  | [], _, _, _, _, _, h, _ => by simp at h
  | a :: ts, lo, z, 0, t, hs, h, hz => by
    simp at h
    subst h
    exact hs.1 (by omega)
  | a :: ts, lo, z, j + 1, t, hs, h, hz => swl_at ts (lo + 1) z j t hs.2 (by simpa using h) (by omega)
theorem okT_at {rp : Nat} : ∀ (os : List Int) (ts : List Nat) (j : Nat), okT rp os ts = true → j < ts.length → ∃ o t, os[j]? = some o ∧ ts[j]? = some t ∧ (rp : Int) + o = ((t % 100000 : Nat) : Int)
  | [], [], _, _, h => by simp at h
  | [], _ :: _, _, h, _ => by simp [okT] at h
  | _ :: _, [], _, _, h => by simp at h
  | o :: os, t :: ts, 0, h, _ => by
    simp only [okT, Bool.and_eq_true, decide_eq_true_eq] at h
    exact ⟨o, t, rfl, rfl, h.1⟩
  | o :: os, t :: ts, j + 1, h, hj => by
    simp only [okT, Bool.and_eq_true, decide_eq_true_eq] at h
    obtain ⟨o', t', h1, h2, h3⟩ := okT_at os ts j h.2 (by simpa using hj)
    exact ⟨o', t', by simpa using h1, by simpa using h2, h3⟩
theorem si_tableswitch {df lo hi : Int} {os : Array Int} (ho : okE k pc (.tableswitch df lo hi os, nx, x, y) = true) (hw : wpi (dG D) (simP D KX) (.tableswitch df lo hi os, nx, x, y) d k pc ls st h bc bs Q X) : simP D KX d k pc ls st h bc bs Q X := by
  intro p l e R s m args below meth c H locs cells slots LS hC hr hL hS hR hbc hbs hlo
  unfold okE at ho
  simp only [Bool.and_eq_true, Bool.or_eq_true, decide_eq_true_eq] at ho
  obtain ⟨⟨hd, -⟩, ⟨⟨⟨h1, h2⟩, h3⟩, h4⟩, h5⟩ := ho
  match st, hw, hS with
  | .inl a :: r, hw, hS =>
    have haR : inR a := okS_h hS
    have ha : (Int32.ofInt a).toInt = a := i32_toInt haR
    by_cases hq : a < lo ∨ hi < a
    · exact lv_tableOut hC.1 hC.2.1 hd (by rw [ha]; exact hq) h1 (go (hw.1 hq) rfl rfl hC hr hL (okS_t hS) hR hbc hbs hlo)
    · obtain ⟨o, t, g1, g2, g3⟩ := okT_at os.toList y (a - lo).toNat h2 (by omega)
      have hN := swl_at y lo a (a - lo).toNat t hw.2 g2 (by omega)
      refine lv_tableIn hC.1 hC.2.1 hd (by rw [ha]; omega) (by rw [ha]; omega) (off := o) ?_ g3 (go hN rfl rfl hC hr hL (okS_t hS) hR hbc hbs hlo)
      rw [ha, ← Array.getElem?_toList]
      exact g1
end Sim
