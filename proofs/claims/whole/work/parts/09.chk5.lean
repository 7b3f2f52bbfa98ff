theorem ok_L_law : ∀ pc, pc < mLn 161 → okO 161 pc (mc_L_law pc) = true ∧ okO 161 (100000 + pc) (mc_L_law (100000 + pc)) = true := by decide +kernel
