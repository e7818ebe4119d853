/-! so the claim is false -/
set_option maxRecDepth 100000 in
theorem rf_run0 : rf_start false 62500 (start1.aboutOf rf_sc) = true := by decide +kernel
theorem rf_not2 (tb : Tables) (e : Env) (a : Array Value) (s t : State) : ¬ Post_1_2 tb e a s (.returned (some (.int 0))) t := by
  intro h
  have h0 := h.1
  have hv : Jvm.D.postC limb_1_2 tb e a s (.returned (some (.int 0))) t = ((some (decide ((0 : Int32) = 1)) == some true) = true) := rfl
  rw [hv] at h0
  exact absurd h0 (by decide)
/-- at the script rf_sc the law comes back with the answer 0 -/
theorem rf_falls : Jvm.D.FallsFor flags0 classFile x code maxLocals ret World_1 tables_1 room_1 Calls_1 rest_1 Pre_1 Post_1_2 := by
  obtain ⟨n, h1, h2, h3⟩ := rf_start_of rf_I0 rf_run0
  exact ⟨launch0, start1.p0, start1.e0, start1.aboutOf rf_sc, ⟨0, 0⟩, start1.args0, Lib.HandBits.below0, rfl, rf_atStart, n, _, h1, h2, h3, rf_not2 _ _ _ _ _⟩
/-- THE REFUTATION: what is claimed is false -/
theorem rf_refuted : ¬ (Claimed_1_1 ∧ Claimed_1_2) := by
  rintro ⟨-, hA⟩
  obtain ⟨l, p, e, s, m, args, below, hfl, ⟨a1, a2, a3, a4, a5, a6, a7, a8, a9, a10, a11, a12, a13⟩, n, o, h1, -, h3, h4⟩ := rf_falls
  obtain ⟨k, q, g1, -, g3, g4⟩ := hA l hfl a1 a2 p e a3 a5 a6 s m args below a7 a8 a9 a10 ⟨a11, a12, a13⟩
  rcases Nat.lt_trichotomy n k with hl | hl | hl
  · exact absurd (g1 n hl) h3.not_within
  · subst hl
    cases h3.outcome_unique g3
    exact h4 g4
  · exact absurd (h1 k hl) g3.not_within
