def pIns : List (Nat × Nat) := [(502, 80), (256, 70), (298, 71), (327, 73), (96, 64), (132, 66), (238, 69), (125, 65), (304, 72), (208, 68), (88, 63), (958, 74)]
theorem c_ins : ∀ t, t < 12 → wAt (pIns.getD t (0, 0)).1 (.instantiable (RRc t) (NFc t)) = true ∧ wAt (pIns.getD t (0, 0)).2 (.initialized (RRc t)) = true := by decide +kernel
def pArr : List Nat := [123, 122, 325, 1352]
theorem c_arr : ∀ t, t < 24 → 20 ≤ t → wAt (pArr.getD (t - 20) 0) (.arrayClass (ety t)) = true := by decide +kernel
def pLay : List (List Nat) := [[515, 517], [280, 282, 284, 286, 288, 290, 292, 294], [354, 356, 358, 360, 362, 364, 366, 368, 370, 372, 374, 376, 378, 380], [334, 336], [111, 113, 115, 117, 119], [173, 175, 177, 179, 181, 183, 185, 187, 189, 191], [248, 250, 252], [200, 202, 204], [314, 316, 318, 320, 322], [222, 224, 226, 228, 230, 232, 234], [390, 392, 394, 396, 398, 400, 402], [1017, 1019, 1021, 1023, 1025, 1027, 1029, 1031, 1033, 1035, 1037, 1039, 1041, 1043, 1045, 1047, 1049, 1051, 1053, 1055, 1057, 1059, 1061, 1063, 1065, 1067, 1069, 1071, 1073, 1075, 1077, 1079, 1081, 1083, 1085, 1087, 1089, 1091, 1093, 1095, 1097, 1099, 1101, 1103, 1105, 1107, 1109, 1111, 1113, 1115, 1117, 1119, 1121, 1123]]
theorem c_lay : ∀ t, t < 12 → ∀ j, j < NFc t → wAt ((pLay.getD t []).getD j 0) (u_lay (RRc t) (TTc t) j) = true := by decide +kernel
theorem c_dv : ∀ t, t < 12 → ∀ j, j < NFc t → (fkd (TYc t j) = 1 → defaultValue (TYc t j) = .null) ∧ (¬ fkd (TYc t j) = 1 → defaultValue (TYc t j) = .int 0) := by decide +kernel
def isRf : FieldType → Bool
  | .object _ => true
  | .array _ => true
  | _ => false
theorem c_rf : ∀ t, t < 12 → ∀ j, j < NFc t → fkd (TYc t j) = 1 → isRf (TYc t j) = true := by decide +kernel
theorem c_rty : ∀ t, t < 12 → ∀ j, j < NFc t → fkd (TYc t j) = 1 → (∃ n, TYc t j = .object n) ∨ ∃ n, TYc t j = .array n := fun t ht j hj hf => by
  have h := c_rf t ht j hj hf
  cases hq : TYc t j <;> rw [hq] at h <;> first | exact Or.inl ⟨_, rfl⟩ | exact Or.inr ⟨_, rfl⟩ | cases h
