/-! THE SMALL MACHINE: whole numbers, a heap of kinds and values, the code of the tables with what its entries link -/
abbrev mV : Type := Int ⊕ (Option Nat) ⊕ Int
abbrev vI (z : Int) : mV := Sum.inl z
abbrev vR (r : Option Nat) : mV := Sum.inr (Sum.inl r)
abbrev vL (z : Int) : mV := Sum.inr (Sum.inr z)
/-- size; kind and length of a cell; ints; references; longs -/
def mH : Type := Nat × (Nat → Option (Nat × Nat)) × (Nat → Nat → Int) × (Nat → Nat → Option Nat) × (Nat → Nat → Int)
def hsz (h : mH) : Nat := h.1
def hty (h : mH) (a : Nat) : Option (Nat × Nat) := h.2.1 a
def hvi (h : mH) (a i : Nat) : Int := h.2.2.1 a i
def hvr (h : mH) (a i : Nat) : Option Nat := h.2.2.2.1 a i
def hvl (h : mH) (a i : Nat) : Int := h.2.2.2.2 a i
def hsetI (h : mH) (a i : Nat) (v : Int) : mH := (h.1, h.2.1, fun b j => if b = a ∧ j = i then v else h.2.2.1 b j, h.2.2.2.1, h.2.2.2.2)
def hsetR (h : mH) (a i : Nat) (v : Option Nat) : mH := (h.1, h.2.1, h.2.2.1, fun b j => if b = a ∧ j = i then v else h.2.2.2.1 b j, h.2.2.2.2)
def hsetL (h : mH) (a i : Nat) (v : Int) : mH := (h.1, h.2.1, h.2.2.1, h.2.2.2.1, fun b j => if b = a ∧ j = i then v else h.2.2.2.2 b j)
def hpush (h : mH) (t n : Nat) : mH := (h.1 + 1, fun a => if a = h.1 then some (t, n) else h.2.1 a, fun b j => if b = h.1 then 0 else h.2.2.1 b j, fun b j => if b = h.1 then none else h.2.2.2.1 b j, fun b j => if b = h.1 then 0 else h.2.2.2.2 b j)
def hgrow (h : mH) (z : Nat) : mH := (z, h.2.1, h.2.2.1, h.2.2.2.1, h.2.2.2.2)
/-- n ints from a at i to b at j -/
def hcpy (h : mH) (a i b j n : Nat) : mH := (h.1, h.2.1, fun c k => if c = b ∧ j ≤ k ∧ k < j + n then h.2.2.1 a (i + (k - j)) else h.2.2.1 c k, h.2.2.2.1, h.2.2.2.2)
theorem hsz_I {h : mH} {a i : Nat} {v : Int} : hsz (hsetI h a i v) = hsz h := rfl
theorem hty_I {h : mH} {a i b : Nat} {v : Int} : hty (hsetI h a i v) b = hty h b := rfl
theorem hvi_I {h : mH} {a i b j : Nat} {v : Int} : hvi (hsetI h a i v) b j = if b = a ∧ j = i then v else hvi h b j := rfl
theorem hvr_I {h : mH} {a i b j : Nat} {v : Int} : hvr (hsetI h a i v) b j = hvr h b j := rfl
theorem hvl_I {h : mH} {a i b j : Nat} {v : Int} : hvl (hsetI h a i v) b j = hvl h b j := rfl
theorem hsz_R {h : mH} {a i : Nat} {v : Option Nat} : hsz (hsetR h a i v) = hsz h := rfl
theorem hty_R {h : mH} {a i b : Nat} {v : Option Nat} : hty (hsetR h a i v) b = hty h b := rfl
theorem hvi_R {h : mH} {a i b j : Nat} {v : Option Nat} : hvi (hsetR h a i v) b j = hvi h b j := rfl
theorem hvr_R {h : mH} {a i b j : Nat} {v : Option Nat} : hvr (hsetR h a i v) b j = if b = a ∧ j = i then v else hvr h b j := rfl
theorem hvl_R {h : mH} {a i b j : Nat} {v : Option Nat} : hvl (hsetR h a i v) b j = hvl h b j := rfl
theorem hsz_L {h : mH} {a i : Nat} {v : Int} : hsz (hsetL h a i v) = hsz h := rfl
theorem hty_L {h : mH} {a i b : Nat} {v : Int} : hty (hsetL h a i v) b = hty h b := rfl
theorem hvi_L {h : mH} {a i b j : Nat} {v : Int} : hvi (hsetL h a i v) b j = hvi h b j := rfl
theorem hvr_L {h : mH} {a i b j : Nat} {v : Int} : hvr (hsetL h a i v) b j = hvr h b j := rfl
theorem hvl_L {h : mH} {a i b j : Nat} {v : Int} : hvl (hsetL h a i v) b j = if b = a ∧ j = i then v else hvl h b j := rfl
theorem hsz_P {h : mH} {t n : Nat} : hsz (hpush h t n) = hsz h + 1 := rfl
theorem hty_P {h : mH} {t n b : Nat} : hty (hpush h t n) b = if b = hsz h then some (t, n) else hty h b := rfl
theorem hvi_P {h : mH} {t n b j : Nat} : hvi (hpush h t n) b j = if b = hsz h then 0 else hvi h b j := rfl
theorem hvr_P {h : mH} {t n b j : Nat} : hvr (hpush h t n) b j = if b = hsz h then none else hvr h b j := rfl
theorem hvl_P {h : mH} {t n b j : Nat} : hvl (hpush h t n) b j = if b = hsz h then 0 else hvl h b j := rfl
theorem hsz_C {h : mH} {a i b j n : Nat} : hsz (hcpy h a i b j n) = hsz h := rfl
theorem hty_C {h : mH} {a i b j n c : Nat} : hty (hcpy h a i b j n) c = hty h c := rfl
theorem hvi_C {h : mH} {a i b j n c k : Nat} : hvi (hcpy h a i b j n) c k = if c = b ∧ j ≤ k ∧ k < j + n then hvi h a (i + (k - j)) else hvi h c k := rfl
theorem hvr_C {h : mH} {a i b j n c k : Nat} : hvr (hcpy h a i b j n) c k = hvr h c k := rfl
theorem hvl_C {h : mH} {a i b j n c k : Nat} : hvl (hcpy h a i b j n) c k = hvl h c k := rfl
theorem hsz_G {h : mH} {z : Nat} : hsz (hgrow h z) = z := rfl
theorem hty_G {h : mH} {z a : Nat} : hty (hgrow h z) a = hty h a := rfl
theorem hvi_G {h : mH} {z a i : Nat} : hvi (hgrow h z) a i = hvi h a i := rfl
theorem hvr_G {h : mH} {z a i : Nat} : hvr (hgrow h z) a i = hvr h a i := rfl
theorem hvl_G {h : mH} {z a i : Nat} : hvl (hgrow h z) a i = hvl h a i := rfl
def inR (z : Int) : Prop := -2147483648 ≤ z ∧ z ≤ 2147483647
def bAnd (a b : Int) : Int := (Int32.ofInt a &&& Int32.ofInt b).toInt
def bOr (a b : Int) : Int := (Int32.ofInt a ||| Int32.ofInt b).toInt
def bShl (a b : Int) : Int := (Int32.ofInt a <<< (Int32.ofInt b &&& 31)).toInt
def bShr (a b : Int) : Int := (Int32.ofInt a >>> (Int32.ofInt b &&& 31)).toInt
def bUshr (a b : Int) : Int := (((Int32.ofInt a).toUInt32 >>> ((Int32.ofInt b).toUInt32 &&& Int32.toUInt32 31)).toInt32).toInt
def cmpL (a b : Int) : Int := if a < b then -1 else if a = b then 0 else 1
def lget : List (Option mV) → Nat → Option mV
  | [], _ => none
  | a :: _, 0 => a
  | _ :: l, n + 1 => lget l n
def lset : List (Option mV) → Nat → mV → List (Option mV)
  | [], _, _ => []
  | _ :: l, 0, v => some v :: l
  | a :: l, n + 1, v => a :: lset l n v
def popN : Nat → List mV → List mV → Option (List mV × List mV)
  | 0, st, acc => some (acc, st)
  | n + 1, .inl z :: st, acc => popN n st (.inl z :: acc)
  | n + 1, .inr (.inl r) :: st, acc => popN n st (.inr (.inl r) :: acc)
  | _ + 1, _, _ => none
def cats : List mV → Nat
  | [] => 0
  | .inr (.inr _) :: l => 2 + cats l
  | .inr (.inl _) :: l => 1 + cats l
  | .inl _ :: l => 1 + cats l
def entL (n : Nat) (args : List mV) : List (Option mV) := args.map some ++ List.replicate (n - args.length) none
abbrev mE : Type := Instr × Nat × Nat × List Nat
abbrev mQ : Type := Option mV → mH → Prop
abbrev mX : Type := Nat → mH → Prop
/-- depth, method, pc, locals, stack, heap, cells and slots that are left, what is owed at the end -/
abbrev mN : Type := Nat → Nat → Nat → List (Option mV) → List mV → mH → Nat → Nat → mQ → mX → Prop
/-- the String constants: their characters -/
def sTxt : List (List Int) := [[33], [40], [41], [45, 97], [45, 111], [45, 110, 97, 109, 101], [45, 116, 121, 112, 101], [45, 115, 105, 122, 101], [45, 109, 116, 105, 109, 101], [45, 108, 105, 110, 107, 115], [45, 110, 101, 119, 101, 114], [45, 112, 114, 117, 110, 101], [45, 112, 114, 105, 110, 116], [45, 100, 101, 112, 116, 104]]
def sLen (i : Nat) : Nat := (sTxt.getD (i - 1) []).length
def sBy (i j : Nat) : Int := (sTxt.getD (i - 1) []).getD j 0
def isArr (t : Nat) : Bool := t == 20 || t == 21 || t == 22 || t == 23 || t == 24 || t == 25 || t == 50 || t == 51 || t == 52
def elT (t : Nat) : Nat := if t = 24 then 5 else 0
def swl (N : Nat → Prop) : Int → List Nat → Int → Prop
  | _, [], _ => True
  | lo, t :: ts, z => (z = lo → N t) ∧ swl N (lo + 1) ts z
def rcv (G : Nat → Nat) (rt : Nat) (args : List mV) (h : mH) : Prop := match args with
  | .inr (.inl (some a)) :: _ => if rt = 13 then ∃ i, 1 ≤ i ∧ i ≤ 14 ∧ a = G i else match hty h a with
      | some (t', _) => t' + 1 = rt
      | none => False
  | _ => False
/-- the call of method kk with its arguments, and what goes on behind it -/
def callG (N : mN) (d kk mc ms mx : Nat) (args : List mV) (h : mH) (C : mQ) (X : mX) : Prop :=
  ∃ (Qc : mQ) (Xc : mX), N (d - 1) kk 0 (entL mx args) [] h mc ms Qc Xc ∧ (∀ v h', Qc v h' → C v h') ∧ (∀ e h', Xc e h' → X e h')
def wpi (G : Nat → Nat) (N : mN) (e : mE) (d k pc : Nat) (ls : List (Option mV)) (st : List mV) (h : mH) (bc bs : Nat) (Q : mQ) (X : mX) : Prop :=
  match e with
  | (.iconst v, nx, _, _) => N d k nx ls (.inl v :: st) h bc bs Q X
  | (.bipush v, nx, _, _) => N d k nx ls (.inl v :: st) h bc bs Q X
  | (.sipush v, nx, _, _) => N d k nx ls (.inl v :: st) h bc bs Q X
  | (.ldc _, nx, 0, [v]) => N d k nx ls (.inl (v : Int) :: st) h bc bs Q X
  | (.ldc _, nx, 1, [i]) => N d k nx ls (.inr (.inl (some (G i))) :: st) h bc bs Q X
  | (.ldc_w _, nx, 0, [v]) => N d k nx ls (.inl (v : Int) :: st) h bc bs Q X
  | (.aconst_null, nx, _, _) => N d k nx ls (.inr (.inl none) :: st) h bc bs Q X
  | (.iload _, nx, x, _) => match lget ls x with
    | some (.inl z) => N d k nx ls (.inl z :: st) h bc bs Q X
    | _ => False
  | (.iload_n _, nx, x, _) => match lget ls x with
    | some (.inl z) => N d k nx ls (.inl z :: st) h bc bs Q X
    | _ => False
  | (.aload _, nx, x, _) => match lget ls x with
    | some (.inr (.inl r)) => N d k nx ls (.inr (.inl r) :: st) h bc bs Q X
    | _ => False
  | (.aload_n _, nx, x, _) => match lget ls x with
    | some (.inr (.inl r)) => N d k nx ls (.inr (.inl r) :: st) h bc bs Q X
    | _ => False
  | (.istore _, nx, x, _) => match st with
    | .inl z :: r => N d k nx (lset ls x (.inl z)) r h bc bs Q X
    | _ => False
  | (.istore_n _, nx, x, _) => match st with
    | .inl z :: r => N d k nx (lset ls x (.inl z)) r h bc bs Q X
    | _ => False
  | (.astore _, nx, x, _) => match st with
    | .inr (.inl q) :: r => N d k nx (lset ls x (.inr (.inl q))) r h bc bs Q X
    | _ => False
  | (.astore_n _, nx, x, _) => match st with
    | .inr (.inl q) :: r => N d k nx (lset ls x (.inr (.inl q))) r h bc bs Q X
    | _ => False
  | (.iinc _ c, nx, x, _) => match lget ls x with
    | some (.inl z) => inR (z + c) ∧ N d k nx (lset ls x (.inl (z + c))) st h bc bs Q X
    | _ => False
  | (.iadd, nx, _, _) => match st with
    | .inl b :: .inl a :: r => inR (a + b) ∧ N d k nx ls (.inl (a + b) :: r) h bc bs Q X
    | _ => False
  | (.isub, nx, _, _) => match st with
    | .inl b :: .inl a :: r => inR (a - b) ∧ N d k nx ls (.inl (a - b) :: r) h bc bs Q X
    | _ => False
  | (.imul, nx, _, _) => match st with
    | .inl b :: .inl a :: r => inR (a * b) ∧ N d k nx ls (.inl (a * b) :: r) h bc bs Q X
    | _ => False
  | (.idiv, nx, _, _) => match st with
    | .inl b :: .inl a :: r => (0 ≤ a ∧ 0 < b) ∧ N d k nx ls (.inl (a / b) :: r) h bc bs Q X
    | _ => False
  | (.ineg, nx, _, _) => match st with
    | .inl a :: r => inR (-a) ∧ N d k nx ls (.inl (-a) :: r) h bc bs Q X
    | _ => False
  | (.iand, nx, _, _) => match st with
    | .inl b :: .inl a :: r => N d k nx ls (.inl (bAnd a b) :: r) h bc bs Q X
    | _ => False
  | (.ior, nx, _, _) => match st with
    | .inl b :: .inl a :: r => N d k nx ls (.inl (bOr a b) :: r) h bc bs Q X
    | _ => False
  | (.ishl, nx, _, _) => match st with
    | .inl b :: .inl a :: r => N d k nx ls (.inl (bShl a b) :: r) h bc bs Q X
    | _ => False
  | (.ishr, nx, _, _) => match st with
    | .inl b :: .inl a :: r => N d k nx ls (.inl (bShr a b) :: r) h bc bs Q X
    | _ => False
  | (.iushr, nx, _, _) => match st with
    | .inl b :: .inl a :: r => N d k nx ls (.inl (bUshr a b) :: r) h bc bs Q X
    | _ => False
  | (.i2c, nx, _, _) => match st with
    | .inl a :: r => (0 ≤ a ∧ a < 65536) ∧ N d k nx ls (.inl a :: r) h bc bs Q X
    | _ => False
  | (.i2l, nx, _, _) => match st with
    | .inl a :: r => N d k nx ls (.inr (.inr a) :: r) h bc bs Q X
    | _ => False
  | (.lcmp, nx, _, _) => match st with
    | .inr (.inr b) :: .inr (.inr a) :: r => N d k nx ls (.inl (cmpL a b) :: r) h bc bs Q X
    | _ => False
  | (.dup, nx, _, _) => match st with
    | .inl a :: r => N d k nx ls (.inl a :: .inl a :: r) h bc bs Q X
    | .inr (.inl a) :: r => N d k nx ls (.inr (.inl a) :: .inr (.inl a) :: r) h bc bs Q X
    | _ => False
  | (.dup2, nx, _, _) => match st with
    | .inl a :: .inr (.inl b) :: r => N d k nx ls (.inl a :: .inr (.inl b) :: .inl a :: .inr (.inl b) :: r) h bc bs Q X
    | _ => False
  | (.pop, nx, _, _) => match st with
    | .inl _ :: r => N d k nx ls r h bc bs Q X
    | .inr (.inl _) :: r => N d k nx ls r h bc bs Q X
    | _ => False
  | (.goto _, _, x, _) => N d k x ls st h bc bs Q X
  | (.ifCond c _, nx, x, _) => match st with
    | .inl a :: r => match c with
      | .eq => (a = 0 → N d k x ls r h bc bs Q X) ∧ (¬ a = 0 → N d k nx ls r h bc bs Q X)
      | .ne => (¬ a = 0 → N d k x ls r h bc bs Q X) ∧ (a = 0 → N d k nx ls r h bc bs Q X)
      | .lt => (a < 0 → N d k x ls r h bc bs Q X) ∧ (¬ a < 0 → N d k nx ls r h bc bs Q X)
      | .ge => (¬ a < 0 → N d k x ls r h bc bs Q X) ∧ (a < 0 → N d k nx ls r h bc bs Q X)
      | .gt => (0 < a → N d k x ls r h bc bs Q X) ∧ (¬ 0 < a → N d k nx ls r h bc bs Q X)
      | .le => (¬ 0 < a → N d k x ls r h bc bs Q X) ∧ (0 < a → N d k nx ls r h bc bs Q X)
    | _ => False
  | (.if_icmp c _, nx, x, _) => match st with
    | .inl b :: .inl a :: r => match c with
      | .eq => (a = b → N d k x ls r h bc bs Q X) ∧ (¬ a = b → N d k nx ls r h bc bs Q X)
      | .ne => (¬ a = b → N d k x ls r h bc bs Q X) ∧ (a = b → N d k nx ls r h bc bs Q X)
      | .lt => (a < b → N d k x ls r h bc bs Q X) ∧ (¬ a < b → N d k nx ls r h bc bs Q X)
      | .ge => (¬ a < b → N d k x ls r h bc bs Q X) ∧ (a < b → N d k nx ls r h bc bs Q X)
      | .gt => (b < a → N d k x ls r h bc bs Q X) ∧ (¬ b < a → N d k nx ls r h bc bs Q X)
      | .le => (¬ b < a → N d k x ls r h bc bs Q X) ∧ (b < a → N d k nx ls r h bc bs Q X)
    | _ => False
  | (.if_acmp c _, nx, x, _) => match st with
    | .inr (.inl b) :: .inr (.inl a) :: r => match c with
      | .eq => (a = b → N d k x ls r h bc bs Q X) ∧ (¬ a = b → N d k nx ls r h bc bs Q X)
      | .ne => (¬ a = b → N d k x ls r h bc bs Q X) ∧ (a = b → N d k nx ls r h bc bs Q X)
    | _ => False
  | (.ifnull _, nx, x, _) => match st with
    | .inr (.inl a) :: r => (a = none → N d k x ls r h bc bs Q X) ∧ (¬ a = none → N d k nx ls r h bc bs Q X)
    | _ => False
  | (.ifnonnull _, nx, x, _) => match st with
    | .inr (.inl a) :: r => (¬ a = none → N d k x ls r h bc bs Q X) ∧ (a = none → N d k nx ls r h bc bs Q X)
    | _ => False
  | (.tableswitch _ lo hi _, _, x, y) => match st with
    | .inl a :: r => ((a < lo ∨ hi < a) → N d k x ls r h bc bs Q X) ∧ swl (fun t => N d k t ls r h bc bs Q X) lo y a
    | _ => False
  | (.getfield _, nx, x, [j, kd, n]) => match st with
    | .inr (.inl (some a)) :: r => hty h a = some (x, n) ∧ match kd with
      | 0 => N d k nx ls (.inl (hvi h a j) :: r) h bc bs Q X
      | _ => N d k nx ls (.inr (.inl (hvr h a j)) :: r) h bc bs Q X
    | _ => False
  | (.getfield _, nx, _, [j]) => match st with
    | .inr (.inl (some a)) :: r => ∃ i, (1 ≤ i ∧ i ≤ 14 ∧ a = G i) ∧ match j with
      | 0 => N d k nx ls (.inr (.inl (some (G (100 + i)))) :: r) h bc bs Q X
      | _ => N d k nx ls (.inl 0 :: r) h bc bs Q X
    | _ => False
  | (.putfield _, nx, x, [j, kd, n]) => match kd, st with
    | 0, .inl z :: .inr (.inl (some a)) :: r => hty h a = some (x, n) ∧ N d k nx ls r (hsetI h a j z) bc bs Q X
    | 2, .inl z :: .inr (.inl (some a)) :: r => hty h a = some (x, n) ∧ (z = 0 ∨ z = 1) ∧ N d k nx ls r (hsetI h a j z) bc bs Q X
    | 1, .inr (.inl q) :: .inr (.inl (some a)) :: r => hty h a = some (x, n) ∧ N d k nx ls r (hsetR h a j q) bc bs Q X
    | _, _ => False
  | (.getstatic _, nx, 0, _) => N d k nx ls (.inr (.inl (some (G 0))) :: st) h bc bs Q X
  | (.getstatic _, nx, 1, _) => N d k nx ls (.inl 1 :: st) h bc bs Q X
  | (.getstatic _, nx, 2, _) => ∀ r, N d k nx ls (.inr (.inl r) :: st) h bc bs Q X
  | (.arraylength, nx, _, [_]) => match st with
    | .inr (.inl (some a)) :: r => ∃ i, (1 ≤ i ∧ i ≤ 14 ∧ a = G (100 + i)) ∧ N d k nx ls (.inl (sLen i : Int) :: r) h bc bs Q X
    | _ => False
  | (.arraylength, nx, _, []) => match st with
    | .inr (.inl (some a)) :: r => match hty h a with
      | some (t, n) => isArr t = true ∧ N d k nx ls (.inl (n : Int) :: r) h bc bs Q X
      | none => False
    | _ => False
  | (.iaload, nx, _, _) => match st with
    | .inl i :: .inr (.inl (some a)) :: r => match hty h a with
      | some (t, n) => (t = 20 ∨ t = 50) ∧ (0 ≤ i ∧ i < n) ∧ N d k nx ls (.inl (hvi h a i.toNat) :: r) h bc bs Q X
      | none => False
    | _ => False
  | (.caload, nx, _, _) => match st with
    | .inl i :: .inr (.inl (some a)) :: r => match hty h a with
      | some (t, n) => (t = 21 ∨ t = 51) ∧ (0 ≤ i ∧ i < n) ∧ N d k nx ls (.inl (hvi h a i.toNat) :: r) h bc bs Q X
      | none => False
    | _ => False
  | (.baload, nx, _, [_]) => match st with
    | .inl z :: .inr (.inl (some a)) :: r => ∃ i, (1 ≤ i ∧ i ≤ 14 ∧ a = G (100 + i)) ∧ (0 ≤ z ∧ z < sLen i) ∧ N d k nx ls (.inl (sBy i z.toNat) :: r) h bc bs Q X
    | _ => False
  | (.baload, nx, _, []) => match st with
    | .inl i :: .inr (.inl (some a)) :: r => match hty h a with
      | some (t, n) => t = 22 ∧ (0 ≤ i ∧ i < n) ∧ N d k nx ls (.inl (hvi h a i.toNat) :: r) h bc bs Q X
      | none => False
    | _ => False
  | (.laload, nx, _, _) => match st with
    | .inl i :: .inr (.inl (some a)) :: r => match hty h a with
      | some (t, n) => t = 23 ∧ (0 ≤ i ∧ i < n) ∧ N d k nx ls (.inr (.inr (hvl h a i.toNat)) :: r) h bc bs Q X
      | none => False
    | _ => False
  | (.aaload, nx, _, _) => match st with
    | .inl i :: .inr (.inl (some a)) :: r => match hty h a with
      | some (t, n) => (t = 24 ∨ t = 25) ∧ (0 ≤ i ∧ i < n) ∧ N d k nx ls (.inr (.inl (hvr h a i.toNat)) :: r) h bc bs Q X
      | none => False
    | _ => False
  | (.iastore, nx, _, _) => match st with
    | .inl z :: .inl i :: .inr (.inl (some a)) :: r => match hty h a with
      | some (t, n) => t = 20 ∧ (0 ≤ i ∧ i < n) ∧ N d k nx ls r (hsetI h a i.toNat z) bc bs Q X
      | none => False
    | _ => False
  | (.castore, nx, _, _) => match st with
    | .inl z :: .inl i :: .inr (.inl (some a)) :: r => match hty h a with
      | some (t, n) => t = 21 ∧ (0 ≤ i ∧ i < n) ∧ (0 ≤ z ∧ z < 65536) ∧ N d k nx ls r (hsetI h a i.toNat z) bc bs Q X
      | none => False
    | _ => False
  | (.bastore, nx, _, _) => match st with
    | .inl z :: .inl i :: .inr (.inl (some a)) :: r => match hty h a with
      | some (t, n) => t = 22 ∧ (0 ≤ i ∧ i < n) ∧ (z = 0 ∨ z = 1) ∧ N d k nx ls r (hsetI h a i.toNat z) bc bs Q X
      | none => False
    | _ => False
  | (.lastore, nx, _, _) => match st with
    | .inr (.inr z) :: .inl i :: .inr (.inl (some a)) :: r => match hty h a with
      | some (t, n) => t = 23 ∧ (0 ≤ i ∧ i < n) ∧ N d k nx ls r (hsetL h a i.toNat z) bc bs Q X
      | none => False
    | _ => False
  | (.aastore, nx, _, _) => match st with
    | .inr (.inl q) :: .inl i :: .inr (.inl (some a)) :: r => match hty h a with
      | some (t, n) => (t = 24 ∨ t = 25) ∧ (0 ≤ i ∧ i < n) ∧ (∀ b, q = some b → ∃ n', hty h b = some (elT t, n')) ∧ N d k nx ls r (hsetR h a i.toNat q) bc bs Q X
      | none => False
    | _ => False
  | (.newarray _, nx, x, _) => match st with
    | .inl n :: r => (0 ≤ n ∧ n ≤ 60000) ∧ (1 ≤ bc ∧ n.toNat ≤ bs) ∧ N d k nx ls (.inr (.inl (some (hsz h))) :: r) (hpush h x n.toNat) (bc - 1) (bs - n.toNat) Q X
    | _ => False
  | (.anewarray _, nx, x, _) => match st with
    | .inl n :: r => (0 ≤ n ∧ n ≤ 60000) ∧ (1 ≤ bc ∧ n.toNat ≤ bs) ∧ N d k nx ls (.inr (.inl (some (hsz h))) :: r) (hpush h x n.toNat) (bc - 1) (bs - n.toNat) Q X
    | _ => False
  | (.new _, nx, x, [n]) => (1 ≤ bc ∧ n ≤ bs) ∧ N d k nx ls (.inr (.inl (some (hsz h))) :: st) (hpush h x n) (bc - 1) (bs - n) Q X
  | (.new _, _, x, []) => (1 ≤ bc ∧ 6 ≤ bs) ∧ cats st ≤ 8 ∧ ∀ z, hsz h ≤ z → X x (hgrow h z)
  | (.invokespecial _, nx, 1000, []) => match st with
    | .inr (.inl (some _)) :: r => cats r ≤ 8 ∧ N d k nx ls r h bc bs Q X
    | _ => False
  | (.invokestatic _, nx, 1001, []) => match st with
    | .inl n :: .inl dp :: .inr (.inl (some b)) :: .inl sp :: .inr (.inl (some a)) :: r => match hty h a, hty h b with
      | some (ta, na), some (tb, nb) => (ta = 21 ∨ ta = 51) ∧ tb = 21 ∧ (0 ≤ sp ∧ 0 ≤ dp ∧ 0 ≤ n ∧ sp + n ≤ na ∧ dp + n ≤ nb) ∧ cats r ≤ 8 ∧ N d k nx ls r (hcpy h a sp.toNat b dp.toNat n.toNat) bc bs Q X
      | _, _ => False
    | _ => False
  | (.invokestatic _, nx, 1002, []) => match st with
    | .inl b :: .inl a :: r => cats r ≤ 8 ∧ N d k nx ls (.inl (if a < b then b else a) :: r) h bc bs Q X
    | _ => False
  | (.invokevirtual _, nx, kk, [na, mc, ms, mx, rt, e1, hp]) => match popN na st [] with
    | some (args, r) => (cats r ≤ 8 ∧ 0 < d ∧ mc ≤ bc ∧ ms ≤ bs) ∧ rcv G rt args h ∧ callG N d kk mc ms mx args h (fun v h' => N d k nx ls (v.toList ++ r) h' (bc - mc) (bs - ms) Q X) (fun e h' => e + 1 = e1 ∧ ∀ q, N d k hp ls [.inr (.inl (some q))] h' (bc - mc) (bs - ms) Q X)
    | none => False
  | (.invokestatic _, nx, kk, [na, mc, ms, mx]) => match popN na st [] with
    | some (args, r) => (cats r ≤ 8 ∧ 0 < d ∧ mc ≤ bc ∧ ms ≤ bs) ∧ callG N d kk mc ms mx args h (fun v h' => N d k nx ls (v.toList ++ r) h' (bc - mc) (bs - ms) Q X) (fun _ _ => False)
    | none => False
  | (.invokespecial _, nx, kk, [na, mc, ms, mx, rt]) => match popN na st [] with
    | some (args, r) => (cats r ≤ 8 ∧ 0 < d ∧ mc ≤ bc ∧ ms ≤ bs) ∧ rcv G rt args h ∧ callG N d kk mc ms mx args h (fun v h' => N d k nx ls (v.toList ++ r) h' (bc - mc) (bs - ms) Q X) (fun _ _ => False)
    | none => False
  | (.ireturn, _, x, _) => match st with
    | [.inl z] => (match x with
      | 0 => True
      | 2 => z = 0 ∨ z = 1
      | 3 => 0 ≤ z ∧ z < 65536
      | _ => -128 ≤ z ∧ z < 128) ∧ Q (some (.inl z)) h
    | _ => False
  | (.areturn, _, _, _) => match st with
    | [.inr (.inl r)] => Q (some (.inr (.inl r))) h
    | _ => False
  | (.return_, _, _, _) => match st with
    | [] => Q none h
    | _ => False
  | _ => False
