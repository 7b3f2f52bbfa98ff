theorem law_wp : LawWp := fun b L _ hL G h hs _ hg1 hg2 hf _ => law_wp_run b L (fun _ => 0) hL G h hs hg1 hg2 hf
theorem i_vc : Claimed_1_1 ∧ Claimed_1_2 := i_vc_open law_wp
