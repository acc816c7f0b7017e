set_option linter.unusedSimpArgs false
set_option linter.unusedVariables false
/-! ===== all of it ===== -/
theorem lq_ok : lq_Pure := by
  intro L xs hL
  obtain ⟨M, ρ, h0, hb⟩ := lw_first
  obtain ⟨N, y, h1, h2, m, h3⟩ := hb L xs _ (lw_loop hL 513 0 M ρ rfl h0)
  exact ⟨N, y, h1 N (Nat.le_refl _), h2, LW_room h3⟩
theorem i_vc : Claimed_1_1 ∧ Claimed_1_2 := lq_claim lq_ok
