theorem okc_law_0 : ∀ pc, pc < 60 → okO 161 (0 + pc) (mc_L_law (0 + pc)) = true ∧ okO 161 (100000 + (0 + pc)) (mc_L_law (100000 + (0 + pc))) = true := by decide +kernel
theorem okc_law_1 : ∀ pc, pc < 60 → okO 161 (60 + pc) (mc_L_law (60 + pc)) = true ∧ okO 161 (100000 + (60 + pc)) (mc_L_law (100000 + (60 + pc))) = true := by decide +kernel
theorem okc_law_2 : ∀ pc, pc < 60 → okO 161 (120 + pc) (mc_L_law (120 + pc)) = true ∧ okO 161 (100000 + (120 + pc)) (mc_L_law (100000 + (120 + pc))) = true := by decide +kernel
theorem okc_law_3 : ∀ pc, pc < 60 → okO 161 (180 + pc) (mc_L_law (180 + pc)) = true ∧ okO 161 (100000 + (180 + pc)) (mc_L_law (100000 + (180 + pc))) = true := by decide +kernel
theorem okc_law_4 : ∀ pc, pc < 60 → okO 161 (240 + pc) (mc_L_law (240 + pc)) = true ∧ okO 161 (100000 + (240 + pc)) (mc_L_law (100000 + (240 + pc))) = true := by decide +kernel
theorem okc_law_5 : ∀ pc, pc < 60 → okO 161 (300 + pc) (mc_L_law (300 + pc)) = true ∧ okO 161 (100000 + (300 + pc)) (mc_L_law (100000 + (300 + pc))) = true := by decide +kernel
theorem okc_law_6 : ∀ pc, pc < 60 → okO 161 (360 + pc) (mc_L_law (360 + pc)) = true ∧ okO 161 (100000 + (360 + pc)) (mc_L_law (100000 + (360 + pc))) = true := by decide +kernel
theorem okc_law_7 : ∀ pc, pc < 60 → okO 161 (420 + pc) (mc_L_law (420 + pc)) = true ∧ okO 161 (100000 + (420 + pc)) (mc_L_law (100000 + (420 + pc))) = true := by decide +kernel
theorem okc_law_8 : ∀ pc, pc < 60 → okO 161 (480 + pc) (mc_L_law (480 + pc)) = true ∧ okO 161 (100000 + (480 + pc)) (mc_L_law (100000 + (480 + pc))) = true := by decide +kernel
theorem okc_law_9 : ∀ pc, pc < 60 → okO 161 (540 + pc) (mc_L_law (540 + pc)) = true ∧ okO 161 (100000 + (540 + pc)) (mc_L_law (100000 + (540 + pc))) = true := by decide +kernel
theorem okc_law_10 : ∀ pc, pc < 60 → okO 161 (600 + pc) (mc_L_law (600 + pc)) = true ∧ okO 161 (100000 + (600 + pc)) (mc_L_law (100000 + (600 + pc))) = true := by decide +kernel
theorem okc_law_11 : ∀ pc, pc < 60 → okO 161 (660 + pc) (mc_L_law (660 + pc)) = true ∧ okO 161 (100000 + (660 + pc)) (mc_L_law (100000 + (660 + pc))) = true := by decide +kernel
theorem okc_law_12 : ∀ pc, pc < 60 → okO 161 (720 + pc) (mc_L_law (720 + pc)) = true ∧ okO 161 (100000 + (720 + pc)) (mc_L_law (100000 + (720 + pc))) = true := by decide +kernel
theorem ok_L_law : ∀ pc, pc < mLn 161 → okO 161 pc (mc_L_law pc) = true ∧ okO 161 (100000 + pc) (mc_L_law (100000 + pc)) = true := by
  intro pc hpc
  have hL : mLn 161 = 729 := rfl
  rw [hL] at hpc
  by_cases h0 : pc < 60
  · have := okc_law_0 (pc - 0) (by omega)
    rw [show 0 + (pc - 0) = pc by omega] at this
    exact this
  by_cases h1 : pc < 120
  · have := okc_law_1 (pc - 60) (by omega)
    rw [show 60 + (pc - 60) = pc by omega] at this
    exact this
  by_cases h2 : pc < 180
  · have := okc_law_2 (pc - 120) (by omega)
    rw [show 120 + (pc - 120) = pc by omega] at this
    exact this
  by_cases h3 : pc < 240
  · have := okc_law_3 (pc - 180) (by omega)
    rw [show 180 + (pc - 180) = pc by omega] at this
    exact this
  by_cases h4 : pc < 300
  · have := okc_law_4 (pc - 240) (by omega)
    rw [show 240 + (pc - 240) = pc by omega] at this
    exact this
  by_cases h5 : pc < 360
  · have := okc_law_5 (pc - 300) (by omega)
    rw [show 300 + (pc - 300) = pc by omega] at this
    exact this
  by_cases h6 : pc < 420
  · have := okc_law_6 (pc - 360) (by omega)
    rw [show 360 + (pc - 360) = pc by omega] at this
    exact this
  by_cases h7 : pc < 480
  · have := okc_law_7 (pc - 420) (by omega)
    rw [show 420 + (pc - 420) = pc by omega] at this
    exact this
  by_cases h8 : pc < 540
  · have := okc_law_8 (pc - 480) (by omega)
    rw [show 480 + (pc - 480) = pc by omega] at this
    exact this
  by_cases h9 : pc < 600
  · have := okc_law_9 (pc - 540) (by omega)
    rw [show 540 + (pc - 540) = pc by omega] at this
    exact this
  by_cases h10 : pc < 660
  · have := okc_law_10 (pc - 600) (by omega)
    rw [show 600 + (pc - 600) = pc by omega] at this
    exact this
  by_cases h11 : pc < 720
  · have := okc_law_11 (pc - 660) (by omega)
    rw [show 660 + (pc - 660) = pc by omega] at this
    exact this
  by_cases h12 : pc < 780
  · have := okc_law_12 (pc - 720) (by omega)
    rw [show 720 + (pc - 720) = pc by omega] at this
    exact this
  omega
