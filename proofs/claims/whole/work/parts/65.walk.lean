











abbrev uX2_seeHeld : ao_Mi := (yX2_seeHeld, cX2_seeHeld, 6, (some .int), [])
def fX2_seeHeld : Nat → Nat → Nat → Nat → Int32 → Int32 → Int32 → Int32 → Nat → Nat →  ao_M → ao_H → Option (Int32 × ao_S)
  | 0, _, _, _, _, _, _, _, _, _, _, _ => none
  | n + 1, pc, r0, r1, x2, x3, x4, s0, q1, q2, M, ρ =>
    if pc = 0 then
      if ρ.2.1 r1 = 17 then
      ao_let ((M r1 8) - (1 : Int32)) fun v2 =>
      fX2_seeHeld n 7 r0 r1 x2 v2 0 0 0 0 M ρ
      else none
    else if pc = 7 then
      if x3 < 0 then
        if ρ.2.1 r0 = 12 then
        if (M r0 5) = 0 then
          (ρ.1 r0 0).bind fun j6 =>
          if ρ.2.1 j6 = 15 then
          (ρ.1 j6 1).bind fun j8 =>
          if ρ.2.1 j8 = 0 then
          if ¬ (x2 < 0 ∨ ρ.2.2.1 j8 ≤ x2.toNatClampNeg) then
          if ρ.2.1 r1 = 17 then
          if (M j8 x2.toNatClampNeg) ≤ (M r1 14) then
            fX2_seeHeld n 73 r0 r1 x2 x3 0 0 0 0 M ρ
          else
            fX2_seeHeld n 74 r0 r1 x2 x3 0 (1 : Int32) 0 0 M ρ
          else none
          else none
          else none
          else none
        else
          fX2_seeHeld n 73 r0 r1 x2 x3 0 0 0 0 M ρ
        else none
      else
        if ρ.2.1 r1 = 17 then
        (gX7_level n r1 x3 M ρ).bind fun p14 =>
        if ρ.2.1 p14.1 = 13 then
        (gX3_wrote p14.1 x2 p14.2 ρ).bind fun p16 =>
        if p16.1 = 0 then
          ao_let (x3 + (-1 : Int32)) fun v18 =>
          fX2_seeHeld n 7 r0 r1 x2 v18 0 0 0 0 p16.2 ρ
        else
          (ρ.1 p14.1 5).bind fun j19 =>
          if ρ.2.1 j19 = 0 then
          if ¬ (x2 < 0 ∨ ρ.2.2.1 j19 ≤ x2.toNatClampNeg) then
          (gX7_push r1 (p16.2 j19 x2.toNatClampNeg) p16.2 ρ).bind fun p22 =>
          some ((0 : Int32), p22, ρ)
          else none
          else none
        else none
        else none
    else if pc = 73 then
      fX2_seeHeld n 74 r0 r1 x2 x3 0 (0 : Int32) 0 0 M ρ
    else if pc = 74 then
      if s0 = 0 then
        if ρ.2.1 r0 = 12 then
        if (M r0 5) = (1 : Int32) then
          fX2_seeHeld n 87 r0 r1 x2 s0 0 0 0 0 M ρ
        else
          fX2_seeHeld n 96 r0 r1 x2 s0 0 (-1 : Int32) 0 0 M ρ
        else none
      else
        fX2_seeHeld n 87 r0 r1 x2 s0 0 0 0 0 M ρ
    else if pc = 87 then
      if ρ.2.1 r0 = 12 then
      (gX2_outermostWrong n r0 r1 M ρ).bind fun p27 =>
      fX2_seeHeld n 96 r0 r1 x2 x3 0 p27.1 0 0 p27.2 ρ
      else none
    else if pc = 96 then
      if x3 = 0 then
        if s0 < 0 then
          if ρ.2.1 r0 = 12 then
          if (M r0 5) = (1 : Int32) then
            (ρ.1 r0 0).bind fun j32 =>
            if ρ.2.1 j32 = 15 then
            if ρ.2.1 r1 = 17 then
            ao_let (ao_u M r1 14 (M j32 4)) fun M35 =>
            fX2_seeHeld n 149 r0 r1 x2 x3 s0 0 0 0 M35 ρ
            else none
            else none
          else
            fX2_seeHeld n 149 r0 r1 x2 x3 s0 0 0 0 M ρ
          else none
        else
          fX2_seeHeld n 107 r0 r1 x2 x3 s0 0 0 0 M ρ
      else
        fX2_seeHeld n 107 r0 r1 x2 x3 s0 0 0 0 M ρ
    else if pc = 107 then
      if x4 < 0 then
        if ρ.2.1 r1 = 17 then
        fX2_seeHeld n 125 r0 r1 x2 x3 x4 ((M r1 8) - (1 : Int32)) r1 r0 M ρ
        else none
      else
        fX2_seeHeld n 125 r0 r1 x2 x3 x4 x4 r1 r0 M ρ
    else if pc = 125 then
      if ρ.2.1 q2 = 12 then
      (gX2_restart n q2 q1 s0 M ρ).bind fun p39 =>
      fX2_seeHeld n 128 r0 r1 x2 x3 x4 0 0 0 p39.1 p39.2
      else none
    else if pc = 128 then
      some ((1 : Int32), M, ρ)
    else if pc = 149 then
      if ρ.2.1 r0 = 12 then
      if (M r0 5) = (2 : Int32) then
        (ρ.1 r0 0).bind fun j47 =>
        if ρ.2.1 r1 = 17 then
        if ρ.2.1 j47 = 15 then
        (gX5_valueAt n j47 x2 (M r1 14) M ρ).bind fun p50 =>
        fX2_seeHeld n 181 r0 r1 x2 x3 x4 p50.1 0 0 p50.2 ρ
        else none
        else none
      else
        (ρ.1 r0 0).bind fun j42 =>
        if ρ.2.1 j42 = 15 then
        (ρ.1 j42 0).bind fun j44 =>
        if ρ.2.1 j44 = 0 then
        if ¬ (x2 < 0 ∨ ρ.2.2.1 j44 ≤ x2.toNatClampNeg) then
        fX2_seeHeld n 181 r0 r1 x2 x3 x4 (M j44 x2.toNatClampNeg) 0 0 M ρ
        else none
        else none
        else none
      else none
    else if pc = 181 then
      if ρ.2.1 r1 = 17 then
      (gX7_innermost n r1 M ρ).bind fun p52 =>
      if ρ.2.1 r0 = 12 then
      (ρ.1 r0 0).bind fun j54 =>
      if ρ.2.1 j54 = 15 then
      (ρ.1 j54 1).bind fun j56 =>
      if ρ.2.1 j56 = 0 then
      if ¬ (x2 < 0 ∨ ρ.2.2.1 j56 ≤ x2.toNatClampNeg) then
      if ρ.2.1 p52.1 = 13 then
      (gX3_addRead p52.1 x2 s0 (p52.2 j56 x2.toNatClampNeg) p52.2 ρ).bind fun p60 =>
      (gX7_push r1 s0 p60 ρ).bind fun p61 =>
      some ((0 : Int32), p61, ρ)
      else none
      else none
      else none
      else none
      else none
      else none
    else none
def gX2_seeHeld (n : Nat) (r0 : Nat) (r1 : Nat) (x2 : Int32) (M : ao_M) (ρ : ao_H) : Option (Int32 × ao_S) := fX2_seeHeld n 0 r0 r1 x2 0 0 0 0 0 M ρ
set_option maxRecDepth 100000 in
set_option maxHeartbeats 4000000 in
theorem mX2_seeHeld : ∀ n : Nat, (∀ (r0 : Nat) (r1 : Nat) (x2 : Int32) (M : ao_M) (ρ : ao_H) (y : Int32 × ao_S), fX2_seeHeld n 0 r0 r1 x2 0 0 0 0 0 M ρ = some y → ao_le ρ y.2.2) ∧ (∀ (r0 : Nat) (r1 : Nat) (x2 : Int32) (x3 : Int32) (M : ao_M) (ρ : ao_H) (y : Int32 × ao_S), fX2_seeHeld n 7 r0 r1 x2 x3 0 0 0 0 M ρ = some y → ao_le ρ y.2.2) ∧ (∀ (r0 : Nat) (r1 : Nat) (x2 : Int32) (x3 : Int32) (M : ao_M) (ρ : ao_H) (y : Int32 × ao_S), fX2_seeHeld n 73 r0 r1 x2 x3 0 0 0 0 M ρ = some y → ao_le ρ y.2.2) ∧ (∀ (r0 : Nat) (r1 : Nat) (x2 : Int32) (x3 : Int32) (s0 : Int32) (M : ao_M) (ρ : ao_H) (y : Int32 × ao_S), fX2_seeHeld n 74 r0 r1 x2 x3 0 s0 0 0 M ρ = some y → ao_le ρ y.2.2) ∧ (∀ (r0 : Nat) (r1 : Nat) (x2 : Int32) (x3 : Int32) (M : ao_M) (ρ : ao_H) (y : Int32 × ao_S), fX2_seeHeld n 87 r0 r1 x2 x3 0 0 0 0 M ρ = some y → ao_le ρ y.2.2) ∧ (∀ (r0 : Nat) (r1 : Nat) (x2 : Int32) (x3 : Int32) (s0 : Int32) (M : ao_M) (ρ : ao_H) (y : Int32 × ao_S), fX2_seeHeld n 96 r0 r1 x2 x3 0 s0 0 0 M ρ = some y → ao_le ρ y.2.2) ∧ (∀ (r0 : Nat) (r1 : Nat) (x2 : Int32) (x3 : Int32) (x4 : Int32) (M : ao_M) (ρ : ao_H) (y : Int32 × ao_S), fX2_seeHeld n 107 r0 r1 x2 x3 x4 0 0 0 M ρ = some y → ao_le ρ y.2.2) ∧ (∀ (r0 : Nat) (r1 : Nat) (x2 : Int32) (x3 : Int32) (x4 : Int32) (s0 : Int32) (q1 : Nat) (q2 : Nat) (M : ao_M) (ρ : ao_H) (y : Int32 × ao_S), fX2_seeHeld n 125 r0 r1 x2 x3 x4 s0 q1 q2 M ρ = some y → ao_le ρ y.2.2) ∧ (∀ (r0 : Nat) (r1 : Nat) (x2 : Int32) (x3 : Int32) (x4 : Int32) (M : ao_M) (ρ : ao_H) (y : Int32 × ao_S), fX2_seeHeld n 128 r0 r1 x2 x3 x4 0 0 0 M ρ = some y → ao_le ρ y.2.2) ∧ (∀ (r0 : Nat) (r1 : Nat) (x2 : Int32) (x3 : Int32) (x4 : Int32) (M : ao_M) (ρ : ao_H) (y : Int32 × ao_S), fX2_seeHeld n 149 r0 r1 x2 x3 x4 0 0 0 M ρ = some y → ao_le ρ y.2.2) ∧ (∀ (r0 : Nat) (r1 : Nat) (x2 : Int32) (x3 : Int32) (x4 : Int32) (s0 : Int32) (M : ao_M) (ρ : ao_H) (y : Int32 × ao_S), fX2_seeHeld n 181 r0 r1 x2 x3 x4 s0 0 0 M ρ = some y → ao_le ρ y.2.2) := by
  intro n
  induction n with
  | zero => exact ⟨fun _ _ _ _ _ _ h => ao_no h, fun _ _ _ _ _ _ _ h => ao_no h, fun _ _ _ _ _ _ _ h => ao_no h, fun _ _ _ _ _ _ _ _ h => ao_no h, fun _ _ _ _ _ _ _ h => ao_no h, fun _ _ _ _ _ _ _ _ h => ao_no h, fun _ _ _ _ _ _ _ _ h => ao_no h, fun _ _ _ _ _ _ _ _ _ _ _ h => ao_no h, fun _ _ _ _ _ _ _ _ h => ao_no h, fun _ _ _ _ _ _ _ _ h => ao_no h, fun _ _ _ _ _ _ _ _ _ h => ao_no h⟩
  | succ n ih =>
    refine ⟨?_, ?_, ?_, ?_, ?_, ?_, ?_, ?_, ?_, ?_, ?_⟩
    · intro r0 r1 x2 M ρ y h
      replace h := ao_ifT h rfl
      obtain ⟨-, h⟩ := ao_some h
      replace h := ao_letD h rfl
      generalize ((M r1 8) - (1 : Int32)) = v2 at h
      exact ih.2.1 r0 r1 x2 v2 M ρ _ h
    · intro r0 r1 x2 x3 M ρ y h
      replace h := ao_ifF h (by decide)
      replace h := ao_ifT h rfl
      rcases ao_ifC h with h | h
      · obtain ⟨-, h⟩ := ao_some h
        rcases ao_ifC h with h | h
        · obtain ⟨j6, hj6, h⟩ := ao_bind h
          obtain ⟨-, h⟩ := ao_some h
          obtain ⟨j8, hj8, h⟩ := ao_bind h
          obtain ⟨-, h⟩ := ao_some h
          obtain ⟨-, h⟩ := ao_some h
          obtain ⟨-, h⟩ := ao_some h
          rcases ao_ifC h with h | h
          · exact ih.2.2.1 r0 r1 x2 x3 M ρ _ h
          · exact ih.2.2.2.1 r0 r1 x2 x3 (1 : Int32) M ρ _ h
        · exact ih.2.2.1 r0 r1 x2 x3 M ρ _ h
      · obtain ⟨-, h⟩ := ao_some h
        obtain ⟨p14, hp14, h⟩ := ao_bind h
        obtain ⟨-, h⟩ := ao_some h
        obtain ⟨p16, hp16, h⟩ := ao_bind h
        rcases ao_ifC h with h | h
        · replace h := ao_letD h rfl
          generalize (x3 + (-1 : Int32)) = v18 at h
          exact ih.2.1 r0 r1 x2 v18 p16.2 ρ _ h
        · obtain ⟨j19, hj19, h⟩ := ao_bind h
          obtain ⟨-, h⟩ := ao_some h
          obtain ⟨-, h⟩ := ao_some h
          obtain ⟨p22, hp22, h⟩ := ao_bind h
          cases h
          exact ao_le_rf _
    · intro r0 r1 x2 x3 M ρ y h
      replace h := ao_ifF h (by decide)
      replace h := ao_ifF h (by decide)
      replace h := ao_ifT h rfl
      exact ih.2.2.2.1 r0 r1 x2 x3 (0 : Int32) M ρ _ h
    · intro r0 r1 x2 x3 s0 M ρ y h
      replace h := ao_ifF h (by decide)
      replace h := ao_ifF h (by decide)
      replace h := ao_ifF h (by decide)
      replace h := ao_ifT h rfl
      rcases ao_ifC h with h | h
      · obtain ⟨-, h⟩ := ao_some h
        rcases ao_ifC h with h | h
        · exact ih.2.2.2.2.1 r0 r1 x2 s0 M ρ _ h
        · exact ih.2.2.2.2.2.1 r0 r1 x2 s0 (-1 : Int32) M ρ _ h
      · exact ih.2.2.2.2.1 r0 r1 x2 s0 M ρ _ h
    · intro r0 r1 x2 x3 M ρ y h
      replace h := ao_ifF h (by decide)
      replace h := ao_ifF h (by decide)
      replace h := ao_ifF h (by decide)
      replace h := ao_ifF h (by decide)
      replace h := ao_ifT h rfl
      obtain ⟨-, h⟩ := ao_some h
      obtain ⟨p27, hp27, h⟩ := ao_bind h
      exact ih.2.2.2.2.2.1 r0 r1 x2 x3 p27.1 p27.2 ρ _ h
    · intro r0 r1 x2 x3 s0 M ρ y h
      replace h := ao_ifF h (by decide)
      replace h := ao_ifF h (by decide)
      replace h := ao_ifF h (by decide)
      replace h := ao_ifF h (by decide)
      replace h := ao_ifF h (by decide)
      replace h := ao_ifT h rfl
      rcases ao_ifC h with h | h
      · rcases ao_ifC h with h | h
        · obtain ⟨-, h⟩ := ao_some h
          rcases ao_ifC h with h | h
          · obtain ⟨j32, hj32, h⟩ := ao_bind h
            obtain ⟨-, h⟩ := ao_some h
            obtain ⟨-, h⟩ := ao_some h
            replace h := ao_letD h rfl
            generalize (ao_u M r1 14 (M j32 4)) = M35 at h
            exact ih.2.2.2.2.2.2.2.2.2.1 r0 r1 x2 x3 s0 M35 ρ _ h
          · exact ih.2.2.2.2.2.2.2.2.2.1 r0 r1 x2 x3 s0 M ρ _ h
        · exact ih.2.2.2.2.2.2.1 r0 r1 x2 x3 s0 M ρ _ h
      · exact ih.2.2.2.2.2.2.1 r0 r1 x2 x3 s0 M ρ _ h
    · intro r0 r1 x2 x3 x4 M ρ y h
      replace h := ao_ifF h (by decide)
      replace h := ao_ifF h (by decide)
      replace h := ao_ifF h (by decide)
      replace h := ao_ifF h (by decide)
      replace h := ao_ifF h (by decide)
      replace h := ao_ifF h (by decide)
      replace h := ao_ifT h rfl
      rcases ao_ifC h with h | h
      · obtain ⟨-, h⟩ := ao_some h
        exact ih.2.2.2.2.2.2.2.1 r0 r1 x2 x3 x4 ((M r1 8) - (1 : Int32)) r1 r0 M ρ _ h
      · exact ih.2.2.2.2.2.2.2.1 r0 r1 x2 x3 x4 x4 r1 r0 M ρ _ h
    · intro r0 r1 x2 x3 x4 s0 q1 q2 M ρ y h
      replace h := ao_ifF h (by decide)
      replace h := ao_ifF h (by decide)
      replace h := ao_ifF h (by decide)
      replace h := ao_ifF h (by decide)
      replace h := ao_ifF h (by decide)
      replace h := ao_ifF h (by decide)
      replace h := ao_ifF h (by decide)
      replace h := ao_ifT h rfl
      obtain ⟨-, h⟩ := ao_some h
      obtain ⟨p39, hp39, h⟩ := ao_bind h
      exact ao_le_tr (me_X2_restart n q2 q1 s0 M ρ hp39) (ih.2.2.2.2.2.2.2.2.1 r0 r1 x2 x3 x4 p39.1 p39.2 _ h)
    · intro r0 r1 x2 x3 x4 M ρ y h
      replace h := ao_ifF h (by decide)
      replace h := ao_ifF h (by decide)
      replace h := ao_ifF h (by decide)
      replace h := ao_ifF h (by decide)
      replace h := ao_ifF h (by decide)
      replace h := ao_ifF h (by decide)
      replace h := ao_ifF h (by decide)
      replace h := ao_ifF h (by decide)
      replace h := ao_ifT h rfl
      cases h
      exact ao_le_rf _
    · intro r0 r1 x2 x3 x4 M ρ y h
      replace h := ao_ifF h (by decide)
      replace h := ao_ifF h (by decide)
      replace h := ao_ifF h (by decide)
      replace h := ao_ifF h (by decide)
      replace h := ao_ifF h (by decide)
      replace h := ao_ifF h (by decide)
      replace h := ao_ifF h (by decide)
      replace h := ao_ifF h (by decide)
      replace h := ao_ifF h (by decide)
      replace h := ao_ifT h rfl
      obtain ⟨-, h⟩ := ao_some h
      rcases ao_ifC h with h | h
      · obtain ⟨j47, hj47, h⟩ := ao_bind h
        obtain ⟨-, h⟩ := ao_some h
        obtain ⟨-, h⟩ := ao_some h
        obtain ⟨p50, hp50, h⟩ := ao_bind h
        exact ih.2.2.2.2.2.2.2.2.2.2 r0 r1 x2 x3 x4 p50.1 p50.2 ρ _ h
      · obtain ⟨j42, hj42, h⟩ := ao_bind h
        obtain ⟨-, h⟩ := ao_some h
        obtain ⟨j44, hj44, h⟩ := ao_bind h
        obtain ⟨-, h⟩ := ao_some h
        obtain ⟨-, h⟩ := ao_some h
        exact ih.2.2.2.2.2.2.2.2.2.2 r0 r1 x2 x3 x4 (M j44 x2.toNatClampNeg) M ρ _ h
    · intro r0 r1 x2 x3 x4 s0 M ρ y h
      replace h := ao_ifF h (by decide)
      replace h := ao_ifF h (by decide)
      replace h := ao_ifF h (by decide)
      replace h := ao_ifF h (by decide)
      replace h := ao_ifF h (by decide)
      replace h := ao_ifF h (by decide)
      replace h := ao_ifF h (by decide)
      replace h := ao_ifF h (by decide)
      replace h := ao_ifF h (by decide)
      replace h := ao_ifF h (by decide)
      replace h := ao_ifT h rfl
      obtain ⟨-, h⟩ := ao_some h
      obtain ⟨p52, hp52, h⟩ := ao_bind h
      obtain ⟨-, h⟩ := ao_some h
      obtain ⟨j54, hj54, h⟩ := ao_bind h
      obtain ⟨-, h⟩ := ao_some h
      obtain ⟨j56, hj56, h⟩ := ao_bind h
      obtain ⟨-, h⟩ := ao_some h
      obtain ⟨-, h⟩ := ao_some h
      obtain ⟨-, h⟩ := ao_some h
      obtain ⟨p60, hp60, h⟩ := ao_bind h
      obtain ⟨p61, hp61, h⟩ := ao_bind h
      cases h
      exact ao_le_rf _
set_option maxRecDepth 100000 in
set_option maxHeartbeats 4000000 in
theorem wX2_seeHeld {Γ : ao_C} (d : Nat) (hd : 5 ≤ d) (MC MS : Nat) : ∀ n : Nat, (∀ (r0 : Nat) (r1 : Nat) (x2 : Int32) (M : ao_M) (ρ : ao_H) (y : Int32 × ao_S), fX2_seeHeld n 0 r0 r1 x2 0 0 0 0 0 M ρ = some y → ao_W Γ uX2_seeHeld (ao_rm d MC MS) (ao_Q Γ (ao_QI y) MC MS) (ao_dc ρ y.2.2) (ao_ds ρ y.2.2) 0 [some (.ref (Γ.2.2.2 + r0)), some (.ref (Γ.2.2.2 + r1)), some (.int x2), none, none, none] [] (M, ρ)) ∧ (∀ (r0 : Nat) (r1 : Nat) (x2 : Int32) (x3 : Int32) (M : ao_M) (ρ : ao_H) (y : Int32 × ao_S), fX2_seeHeld n 7 r0 r1 x2 x3 0 0 0 0 M ρ = some y → ao_W Γ uX2_seeHeld (ao_rm d MC MS) (ao_Q Γ (ao_QI y) MC MS) (ao_dc ρ y.2.2) (ao_ds ρ y.2.2) 7 [some (.ref (Γ.2.2.2 + r0)), some (.ref (Γ.2.2.2 + r1)), some (.int x2), some (.int x3), none, none] [] (M, ρ)) ∧ (∀ (r0 : Nat) (r1 : Nat) (x2 : Int32) (x3 : Int32) (M : ao_M) (ρ : ao_H) (y : Int32 × ao_S), fX2_seeHeld n 73 r0 r1 x2 x3 0 0 0 0 M ρ = some y → ao_W Γ uX2_seeHeld (ao_rm d MC MS) (ao_Q Γ (ao_QI y) MC MS) (ao_dc ρ y.2.2) (ao_ds ρ y.2.2) 73 [some (.ref (Γ.2.2.2 + r0)), some (.ref (Γ.2.2.2 + r1)), some (.int x2), some (.int x3), none, none] [] (M, ρ)) ∧ (∀ (r0 : Nat) (r1 : Nat) (x2 : Int32) (x3 : Int32) (s0 : Int32) (M : ao_M) (ρ : ao_H) (y : Int32 × ao_S), fX2_seeHeld n 74 r0 r1 x2 x3 0 s0 0 0 M ρ = some y → ao_W Γ uX2_seeHeld (ao_rm d MC MS) (ao_Q Γ (ao_QI y) MC MS) (ao_dc ρ y.2.2) (ao_ds ρ y.2.2) 74 [some (.ref (Γ.2.2.2 + r0)), some (.ref (Γ.2.2.2 + r1)), some (.int x2), some (.int x3), none, none] [.int s0] (M, ρ)) ∧ (∀ (r0 : Nat) (r1 : Nat) (x2 : Int32) (x3 : Int32) (M : ao_M) (ρ : ao_H) (y : Int32 × ao_S), fX2_seeHeld n 87 r0 r1 x2 x3 0 0 0 0 M ρ = some y → ao_W Γ uX2_seeHeld (ao_rm d MC MS) (ao_Q Γ (ao_QI y) MC MS) (ao_dc ρ y.2.2) (ao_ds ρ y.2.2) 87 [some (.ref (Γ.2.2.2 + r0)), some (.ref (Γ.2.2.2 + r1)), some (.int x2), some (.int x3), none, none] [] (M, ρ)) ∧ (∀ (r0 : Nat) (r1 : Nat) (x2 : Int32) (x3 : Int32) (s0 : Int32) (M : ao_M) (ρ : ao_H) (y : Int32 × ao_S), fX2_seeHeld n 96 r0 r1 x2 x3 0 s0 0 0 M ρ = some y → ao_W Γ uX2_seeHeld (ao_rm d MC MS) (ao_Q Γ (ao_QI y) MC MS) (ao_dc ρ y.2.2) (ao_ds ρ y.2.2) 96 [some (.ref (Γ.2.2.2 + r0)), some (.ref (Γ.2.2.2 + r1)), some (.int x2), some (.int x3), none, none] [.int s0] (M, ρ)) ∧ (∀ (r0 : Nat) (r1 : Nat) (x2 : Int32) (x3 : Int32) (x4 : Int32) (M : ao_M) (ρ : ao_H) (y : Int32 × ao_S), fX2_seeHeld n 107 r0 r1 x2 x3 x4 0 0 0 M ρ = some y → ao_W Γ uX2_seeHeld (ao_rm d MC MS) (ao_Q Γ (ao_QI y) MC MS) (ao_dc ρ y.2.2) (ao_ds ρ y.2.2) 107 [some (.ref (Γ.2.2.2 + r0)), some (.ref (Γ.2.2.2 + r1)), some (.int x2), some (.int x3), some (.int x4), none] [] (M, ρ)) ∧ (∀ (r0 : Nat) (r1 : Nat) (x2 : Int32) (x3 : Int32) (x4 : Int32) (s0 : Int32) (q1 : Nat) (q2 : Nat) (M : ao_M) (ρ : ao_H) (y : Int32 × ao_S), fX2_seeHeld n 125 r0 r1 x2 x3 x4 s0 q1 q2 M ρ = some y → ao_W Γ uX2_seeHeld (ao_rm d MC MS) (ao_Q Γ (ao_QI y) MC MS) (ao_dc ρ y.2.2) (ao_ds ρ y.2.2) 125 [some (.ref (Γ.2.2.2 + r0)), some (.ref (Γ.2.2.2 + r1)), some (.int x2), some (.int x3), some (.int x4), none] [.int s0, .ref (Γ.2.2.2 + q1), .ref (Γ.2.2.2 + q2)] (M, ρ)) ∧ (∀ (r0 : Nat) (r1 : Nat) (x2 : Int32) (x3 : Int32) (x4 : Int32) (M : ao_M) (ρ : ao_H) (y : Int32 × ao_S), fX2_seeHeld n 128 r0 r1 x2 x3 x4 0 0 0 M ρ = some y → ao_W Γ uX2_seeHeld (ao_rm d MC MS) (ao_Q Γ (ao_QI y) MC MS) (ao_dc ρ y.2.2) (ao_ds ρ y.2.2) 128 [some (.ref (Γ.2.2.2 + r0)), some (.ref (Γ.2.2.2 + r1)), some (.int x2), some (.int x3), some (.int x4), none] [] (M, ρ)) ∧ (∀ (r0 : Nat) (r1 : Nat) (x2 : Int32) (x3 : Int32) (x4 : Int32) (M : ao_M) (ρ : ao_H) (y : Int32 × ao_S), fX2_seeHeld n 149 r0 r1 x2 x3 x4 0 0 0 M ρ = some y → ao_W Γ uX2_seeHeld (ao_rm d MC MS) (ao_Q Γ (ao_QI y) MC MS) (ao_dc ρ y.2.2) (ao_ds ρ y.2.2) 149 [some (.ref (Γ.2.2.2 + r0)), some (.ref (Γ.2.2.2 + r1)), some (.int x2), some (.int x3), some (.int x4), none] [] (M, ρ)) ∧ (∀ (r0 : Nat) (r1 : Nat) (x2 : Int32) (x3 : Int32) (x4 : Int32) (s0 : Int32) (M : ao_M) (ρ : ao_H) (y : Int32 × ao_S), fX2_seeHeld n 181 r0 r1 x2 x3 x4 s0 0 0 M ρ = some y → ao_W Γ uX2_seeHeld (ao_rm d MC MS) (ao_Q Γ (ao_QI y) MC MS) (ao_dc ρ y.2.2) (ao_ds ρ y.2.2) 181 [some (.ref (Γ.2.2.2 + r0)), some (.ref (Γ.2.2.2 + r1)), some (.int x2), some (.int x3), some (.int x4), none] [.int s0] (M, ρ)) := by
  intro n
  induction n with
  | zero => exact ⟨fun _ _ _ _ _ _ h => ao_no h, fun _ _ _ _ _ _ _ h => ao_no h, fun _ _ _ _ _ _ _ h => ao_no h, fun _ _ _ _ _ _ _ _ h => ao_no h, fun _ _ _ _ _ _ _ h => ao_no h, fun _ _ _ _ _ _ _ _ h => ao_no h, fun _ _ _ _ _ _ _ _ h => ao_no h, fun _ _ _ _ _ _ _ _ _ _ _ h => ao_no h, fun _ _ _ _ _ _ _ _ h => ao_no h, fun _ _ _ _ _ _ _ _ h => ao_no h, fun _ _ _ _ _ _ _ _ _ h => ao_no h⟩
  | succ n ih =>
    refine ⟨?_, ?_, ?_, ?_, ?_, ?_, ?_, ?_, ?_, ?_, ?_⟩
    · intro r0 r1 x2 M ρ y h
      replace h := ao_ifT h rfl
      refine ao_aload_n 1 dX2_seeHeld_0 rfl rfl ?_
      obtain ⟨hk1, h⟩ := ao_some h
      refine an_getI r1 7 8 (q := (RX7, TX7, 20)) dX2_seeHeld_1 rfl hk1 (Nat.le_of_ble_eq_true rfl) rfl lf_X2_165 ?_
      refine ao_iconst (v := 1) dX2_seeHeld_4 (by decide) ?_
      refine ao_isub dX2_seeHeld_5 ?_
      refine an_topi (fun v2 hv2 => ?_)
      replace h := ao_letD h hv2
      refine ao_istore_n 3 (lo' := [some (.ref (Γ.2.2.2 + r0)), some (.ref (Γ.2.2.2 + r1)), some (.int x2), some (.int v2), none, none]) dX2_seeHeld_6 rfl (Nat.le_of_ble_eq_true rfl) rfl ?_
      exact ih.2.1 r0 r1 x2 v2 M ρ _ h
    · intro r0 r1 x2 x3 M ρ y h
      replace h := ao_ifF h (by decide)
      replace h := ao_ifT h rfl
      refine ao_iload_n 3 dX2_seeHeld_7 rfl rfl ?_
      refine ao_if_lt 46 dX2_seeHeld_8 (by decide) (fun c3 => ?_) (fun c3 => ?_)
      · replace h := ao_ifT h c3
        refine ao_aload_n 0 dX2_seeHeld_46 rfl rfl ?_
        obtain ⟨hk4, h⟩ := ao_some h
        refine an_getI r0 2 5 (q := (RX2, TX2, 7)) dX2_seeHeld_47 rfl hk4 (Nat.le_of_ble_eq_true rfl) rfl lf_X2_41 ?_
        refine ao_if_ne 73 dX2_seeHeld_50 (by decide) (fun c5 => ?_) (fun c5 => ?_)
        · replace h := ao_ifF h c5
          exact ih.2.2.1 r0 r1 x2 x3 M ρ _ h
        · replace h := ao_ifT h c5
          refine ao_aload_n 0 dX2_seeHeld_53 rfl rfl ?_
          obtain ⟨j6, hj6, h⟩ := ao_bind h
          refine an_getR r0 2 0 (q := (RX2, TX2, 7)) dX2_seeHeld_54 rfl hk4 (Nat.le_of_ble_eq_true rfl) rfl lf_X2_12 hj6 ?_
          obtain ⟨hk7, h⟩ := ao_some h
          obtain ⟨j8, hj8, h⟩ := ao_bind h
          refine an_getR j6 5 1 (q := (RX5, TX5, 11)) dX2_seeHeld_57 rfl hk7 (Nat.le_of_ble_eq_true rfl) rfl lf_X2_206 hj8 ?_
          refine ao_iload_n 2 dX2_seeHeld_60 rfl rfl ?_
          obtain ⟨hk9, h⟩ := ao_some h
          obtain ⟨hb10, h⟩ := ao_some h
          refine an_iaload j8 dX2_seeHeld_61 hk9 hb10 ?_
          refine ao_aload_n 1 dX2_seeHeld_62 rfl rfl ?_
          obtain ⟨hk11, h⟩ := ao_some h
          refine an_getI r1 7 14 (q := (RX7, TX7, 20)) dX2_seeHeld_63 rfl hk11 (Nat.le_of_ble_eq_true rfl) rfl lf_X2_224 ?_
          refine ao_icmp_le 73 dX2_seeHeld_66 (by decide) (fun c12 => ?_) (fun c12 => ?_)
          · replace h := ao_ifT h c12
            exact ih.2.2.1 r0 r1 x2 x3 M ρ _ h
          · replace h := ao_ifF h c12
            refine ao_iconst (v := 1) dX2_seeHeld_69 (by decide) ?_
            refine ao_goto 74 dX2_seeHeld_70 (by decide) ?_
            exact ih.2.2.2.1 r0 r1 x2 x3 (1 : Int32) M ρ _ h
      · replace h := ao_ifF h c3
        refine ao_aload_n 1 dX2_seeHeld_11 rfl rfl ?_
        refine ao_iload_n 3 dX2_seeHeld_12 rfl rfl ?_
        obtain ⟨hk13, h⟩ := ao_some h
        obtain ⟨p14, hp14, h⟩ := ao_bind h
        refine an_callVr r1 7 (q := (RX7, TX7, 20)) [.int x3] (aX7_level (d - 1) (by omega) _ r1 x3 M ρ hp14) dX2_seeHeld_13 lc_X2_213 li_X7_level ls_X7_level rfl hk13 rfl rfl (Nat.le_of_ble_eq_true rfl) (ao_hR (by omega) (by decide)) ?_
        refine ao_astore 4 (lo' := [some (.ref (Γ.2.2.2 + r0)), some (.ref (Γ.2.2.2 + r1)), some (.int x2), some (.int x3), some (.ref (Γ.2.2.2 + p14.1)), none]) dX2_seeHeld_16 (Nat.le_of_ble_eq_true rfl) rfl ?_
        refine ao_aload 4 dX2_seeHeld_18 rfl ?_
        refine ao_iload_n 2 dX2_seeHeld_20 rfl rfl ?_
        obtain ⟨hk15, h⟩ := ao_some h
        obtain ⟨p16, hp16, h⟩ := ao_bind h
        refine an_callVi p14.1 3 (q := (RX3, TX3, 12)) [.int x2] (aX3_wrote (d - 1) (by omega) p14.1 x2 p14.2 ρ hp16) dX2_seeHeld_21 lc_X2_217 li_X3_wrote ls_X3_wrote rfl hk15 rfl rfl (Nat.le_of_ble_eq_true rfl) (ao_hR (by omega) (by decide)) ?_
        refine ao_if_eq 40 dX2_seeHeld_24 (by decide) (fun c17 => ?_) (fun c17 => ?_)
        · replace h := ao_ifT h c17
          obtain ⟨v18, hv18⟩ : ∃ z : Int32, z = x3 + (-1 : Int32) := ⟨_, rfl⟩
          replace h := ao_letD h hv18
          refine ao_iinc 3 (v := v18) (lo' := [some (.ref (Γ.2.2.2 + r0)), some (.ref (Γ.2.2.2 + r1)), some (.int x2), some (.int v18), some (.ref (Γ.2.2.2 + p14.1)), none]) dX2_seeHeld_40 rfl (by rw [hv18]; rfl) (Nat.le_of_ble_eq_true rfl) rfl ?_
          refine ao_goto 7 dX2_seeHeld_43 (by decide) ?_
          refine ao_loForget (lo' := [some (.ref (Γ.2.2.2 + r0)), some (.ref (Γ.2.2.2 + r1)), some (.int x2), some (.int v18), none, none]) (ao_fgS (ao_fgS (ao_fgS (ao_fgS (ao_fgN (ao_fgN ao_fgZ)))))) ?_
          exact ih.2.1 r0 r1 x2 v18 p16.2 ρ _ h
        · replace h := ao_ifF h c17
          refine ao_aload_n 1 dX2_seeHeld_27 rfl rfl ?_
          refine ao_aload 4 dX2_seeHeld_28 rfl ?_
          obtain ⟨j19, hj19, h⟩ := ao_bind h
          refine an_getR p14.1 3 5 (q := (RX3, TX3, 12)) dX2_seeHeld_30 rfl hk15 (Nat.le_of_ble_eq_true rfl) rfl lf_X2_221 hj19 ?_
          refine ao_iload_n 2 dX2_seeHeld_33 rfl rfl ?_
          obtain ⟨hk20, h⟩ := ao_some h
          obtain ⟨hb21, h⟩ := ao_some h
          refine an_iaload j19 dX2_seeHeld_34 hk20 hb21 ?_
          obtain ⟨p22, hp22, h⟩ := ao_bind h
          refine an_callVv r1 7 (q := (RX7, TX7, 20)) [.int (p16.2 j19 x2.toNatClampNeg)] (aX7_push (d - 1) (by omega) r1 (p16.2 j19 x2.toNatClampNeg) p16.2 ρ hp22) dX2_seeHeld_35 lc_X2_152 li_X7_push ls_X7_push rfl hk13 rfl rfl (Nat.le_of_ble_eq_true rfl) (ao_hR (by omega) (by decide)) ?_
          refine ao_iconst (v := 0) dX2_seeHeld_38 (by decide) ?_
          cases h
          exact ao_ireturn dX2_seeHeld_39 rfl rfl ⟨rfl, rfl⟩
    · intro r0 r1 x2 x3 M ρ y h
      replace h := ao_ifF h (by decide)
      replace h := ao_ifF h (by decide)
      replace h := ao_ifT h rfl
      refine ao_iconst (v := 0) dX2_seeHeld_73 (by decide) ?_
      exact ih.2.2.2.1 r0 r1 x2 x3 (0 : Int32) M ρ _ h
    · intro r0 r1 x2 x3 s0 M ρ y h
      replace h := ao_ifF h (by decide)
      replace h := ao_ifF h (by decide)
      replace h := ao_ifF h (by decide)
      replace h := ao_ifT h rfl
      refine ao_istore_n 3 (lo' := [some (.ref (Γ.2.2.2 + r0)), some (.ref (Γ.2.2.2 + r1)), some (.int x2), some (.int s0), none, none]) dX2_seeHeld_74 rfl (Nat.le_of_ble_eq_true rfl) rfl ?_
      refine ao_iload_n 3 dX2_seeHeld_75 rfl rfl ?_
      refine ao_if_ne 87 dX2_seeHeld_76 (by decide) (fun c23 => ?_) (fun c23 => ?_)
      · replace h := ao_ifF h c23
        exact ih.2.2.2.2.1 r0 r1 x2 s0 M ρ _ h
      · replace h := ao_ifT h c23
        refine ao_aload_n 0 dX2_seeHeld_79 rfl rfl ?_
        obtain ⟨hk24, h⟩ := ao_some h
        refine an_getI r0 2 5 (q := (RX2, TX2, 7)) dX2_seeHeld_80 rfl hk24 (Nat.le_of_ble_eq_true rfl) rfl lf_X2_41 ?_
        refine ao_iconst (v := 1) dX2_seeHeld_83 (by decide) ?_
        refine ao_icmp_ne 95 dX2_seeHeld_84 (by decide) (fun c25 => ?_) (fun c25 => ?_)
        · replace h := ao_ifF h c25
          refine ao_iconst (v := (-1)) dX2_seeHeld_95 (by decide) ?_
          exact ih.2.2.2.2.2.1 r0 r1 x2 s0 (-1 : Int32) M ρ _ h
        · replace h := ao_ifT h c25
          exact ih.2.2.2.2.1 r0 r1 x2 s0 M ρ _ h
    · intro r0 r1 x2 x3 M ρ y h
      replace h := ao_ifF h (by decide)
      replace h := ao_ifF h (by decide)
      replace h := ao_ifF h (by decide)
      replace h := ao_ifF h (by decide)
      replace h := ao_ifT h rfl
      refine ao_aload_n 0 dX2_seeHeld_87 rfl rfl ?_
      refine ao_aload_n 1 dX2_seeHeld_88 rfl rfl ?_
      obtain ⟨hk26, h⟩ := ao_some h
      obtain ⟨p27, hp27, h⟩ := ao_bind h
      refine an_callVi r0 2 (q := (RX2, TX2, 7)) [.ref (Γ.2.2.2 + r1)] (aX2_outermostWrong (d - 1) (by omega) _ r0 r1 M ρ hp27) dX2_seeHeld_89 lc_X2_227 li_X2_outermostWrong ls_X2_outermostWrong rfl hk26 rfl rfl (Nat.le_of_ble_eq_true rfl) (ao_hR (by omega) (by decide)) ?_
      refine ao_goto 96 dX2_seeHeld_92 (by decide) ?_
      exact ih.2.2.2.2.2.1 r0 r1 x2 x3 p27.1 p27.2 ρ _ h
    · intro r0 r1 x2 x3 s0 M ρ y h
      replace h := ao_ifF h (by decide)
      replace h := ao_ifF h (by decide)
      replace h := ao_ifF h (by decide)
      replace h := ao_ifF h (by decide)
      replace h := ao_ifF h (by decide)
      replace h := ao_ifT h rfl
      refine ao_istore 4 (lo' := [some (.ref (Γ.2.2.2 + r0)), some (.ref (Γ.2.2.2 + r1)), some (.int x2), some (.int x3), some (.int s0), none]) dX2_seeHeld_96 (Nat.le_of_ble_eq_true rfl) rfl ?_
      refine ao_iload_n 3 dX2_seeHeld_98 rfl rfl ?_
      refine ao_if_ne 107 dX2_seeHeld_99 (by decide) (fun c28 => ?_) (fun c28 => ?_)
      · replace h := ao_ifF h c28
        exact ih.2.2.2.2.2.2.1 r0 r1 x2 x3 s0 M ρ _ h
      · replace h := ao_ifT h c28
        refine ao_iload 4 dX2_seeHeld_102 rfl ?_
        refine ao_if_lt 130 dX2_seeHeld_104 (by decide) (fun c29 => ?_) (fun c29 => ?_)
        · replace h := ao_ifT h c29
          refine ao_aload_n 0 dX2_seeHeld_130 rfl rfl ?_
          obtain ⟨hk30, h⟩ := ao_some h
          refine an_getI r0 2 5 (q := (RX2, TX2, 7)) dX2_seeHeld_131 rfl hk30 (Nat.le_of_ble_eq_true rfl) rfl lf_X2_41 ?_
          refine ao_iconst (v := 1) dX2_seeHeld_134 (by decide) ?_
          refine ao_icmp_ne 149 dX2_seeHeld_135 (by decide) (fun c31 => ?_) (fun c31 => ?_)
          · replace h := ao_ifF h c31
            exact ih.2.2.2.2.2.2.2.2.2.1 r0 r1 x2 x3 s0 M ρ _ h
          · replace h := ao_ifT h c31
            refine ao_aload_n 1 dX2_seeHeld_138 rfl rfl ?_
            refine ao_aload_n 0 dX2_seeHeld_139 rfl rfl ?_
            obtain ⟨j32, hj32, h⟩ := ao_bind h
            refine an_getR r0 2 0 (q := (RX2, TX2, 7)) dX2_seeHeld_140 rfl hk30 (Nat.le_of_ble_eq_true rfl) rfl lf_X2_12 hj32 ?_
            obtain ⟨hk33, h⟩ := ao_some h
            refine an_getI j32 5 4 (q := (RX5, TX5, 11)) dX2_seeHeld_143 rfl hk33 (Nat.le_of_ble_eq_true rfl) rfl lf_X2_61 ?_
            obtain ⟨hk34, h⟩ := ao_some h
            refine an_putI r1 7 14 (q := (RX7, TX7, 20)) dX2_seeHeld_146 rfl hk34 (Nat.le_of_ble_eq_true rfl) lf_X2_224 rfl rfl rfl rfl (fun M35 hM35 => ?_)
            replace h := ao_letD h hM35
            exact ih.2.2.2.2.2.2.2.2.2.1 r0 r1 x2 x3 s0 M35 ρ _ h
        · replace h := ao_ifF h c29
          exact ih.2.2.2.2.2.2.1 r0 r1 x2 x3 s0 M ρ _ h
    · intro r0 r1 x2 x3 x4 M ρ y h
      replace h := ao_ifF h (by decide)
      replace h := ao_ifF h (by decide)
      replace h := ao_ifF h (by decide)
      replace h := ao_ifF h (by decide)
      replace h := ao_ifF h (by decide)
      replace h := ao_ifF h (by decide)
      replace h := ao_ifT h rfl
      refine ao_aload_n 0 dX2_seeHeld_107 rfl rfl ?_
      refine ao_aload_n 1 dX2_seeHeld_108 rfl rfl ?_
      refine ao_iload 4 dX2_seeHeld_109 rfl ?_
      refine ao_if_lt 119 dX2_seeHeld_111 (by decide) (fun c36 => ?_) (fun c36 => ?_)
      · replace h := ao_ifT h c36
        refine ao_aload_n 1 dX2_seeHeld_119 rfl rfl ?_
        obtain ⟨hk37, h⟩ := ao_some h
        refine an_getI r1 7 8 (q := (RX7, TX7, 20)) dX2_seeHeld_120 rfl hk37 (Nat.le_of_ble_eq_true rfl) rfl lf_X2_165 ?_
        refine ao_iconst (v := 1) dX2_seeHeld_123 (by decide) ?_
        refine ao_isub dX2_seeHeld_124 ?_
        exact ih.2.2.2.2.2.2.2.1 r0 r1 x2 x3 x4 ((M r1 8) - (1 : Int32)) r1 r0 M ρ _ h
      · replace h := ao_ifF h c36
        refine ao_iload 4 dX2_seeHeld_114 rfl ?_
        refine ao_goto 125 dX2_seeHeld_116 (by decide) ?_
        exact ih.2.2.2.2.2.2.2.1 r0 r1 x2 x3 x4 x4 r1 r0 M ρ _ h
    · intro r0 r1 x2 x3 x4 s0 q1 q2 M ρ y h
      replace h := ao_ifF h (by decide)
      replace h := ao_ifF h (by decide)
      replace h := ao_ifF h (by decide)
      replace h := ao_ifF h (by decide)
      replace h := ao_ifF h (by decide)
      replace h := ao_ifF h (by decide)
      replace h := ao_ifF h (by decide)
      replace h := ao_ifT h rfl
      obtain ⟨hk38, h⟩ := ao_some h
      obtain ⟨p39, hp39, h⟩ := ao_bind h
      refine ba_callVv q2 2 (q := (RX2, TX2, 7)) [.ref (Γ.2.2.2 + q1), .int s0] (aX2_restart (d - 1) (by omega) n q2 q1 s0 M ρ hp39) dX2_seeHeld_125 lc_X2_230 li_X2_restart ls_X2_restart rfl hk38 rfl rfl (Nat.le_of_ble_eq_true rfl) (ao_hR (by omega) (by decide)) (ao_leC (me_X2_restart n q2 q1 s0 M ρ hp39) ((mX2_seeHeld n).2.2.2.2.2.2.2.2.1 r0 r1 x2 x3 x4 p39.1 p39.2 _ h)) (ao_leS (me_X2_restart n q2 q1 s0 M ρ hp39) ((mX2_seeHeld n).2.2.2.2.2.2.2.2.1 r0 r1 x2 x3 x4 p39.1 p39.2 _ h)) ?_
      exact ih.2.2.2.2.2.2.2.2.1 r0 r1 x2 x3 x4 p39.1 p39.2 _ h
    · intro r0 r1 x2 x3 x4 M ρ y h
      replace h := ao_ifF h (by decide)
      replace h := ao_ifF h (by decide)
      replace h := ao_ifF h (by decide)
      replace h := ao_ifF h (by decide)
      replace h := ao_ifF h (by decide)
      replace h := ao_ifF h (by decide)
      replace h := ao_ifF h (by decide)
      replace h := ao_ifF h (by decide)
      replace h := ao_ifT h rfl
      refine ao_iconst (v := 1) dX2_seeHeld_128 (by decide) ?_
      cases h
      exact ao_ireturn dX2_seeHeld_129 rfl rfl ⟨rfl, rfl⟩
    · intro r0 r1 x2 x3 x4 M ρ y h
      replace h := ao_ifF h (by decide)
      replace h := ao_ifF h (by decide)
      replace h := ao_ifF h (by decide)
      replace h := ao_ifF h (by decide)
      replace h := ao_ifF h (by decide)
      replace h := ao_ifF h (by decide)
      replace h := ao_ifF h (by decide)
      replace h := ao_ifF h (by decide)
      replace h := ao_ifF h (by decide)
      replace h := ao_ifT h rfl
      refine ao_aload_n 0 dX2_seeHeld_149 rfl rfl ?_
      obtain ⟨hk40, h⟩ := ao_some h
      refine an_getI r0 2 5 (q := (RX2, TX2, 7)) dX2_seeHeld_150 rfl hk40 (Nat.le_of_ble_eq_true rfl) rfl lf_X2_41 ?_
      refine ao_iconst (v := 2) dX2_seeHeld_153 (by decide) ?_
      refine ao_icmp_ne 172 dX2_seeHeld_154 (by decide) (fun c41 => ?_) (fun c41 => ?_)
      · replace h := ao_ifF h c41
        refine ao_aload_n 0 dX2_seeHeld_172 rfl rfl ?_
        obtain ⟨j42, hj42, h⟩ := ao_bind h
        refine an_getR r0 2 0 (q := (RX2, TX2, 7)) dX2_seeHeld_173 rfl hk40 (Nat.le_of_ble_eq_true rfl) rfl lf_X2_12 hj42 ?_
        obtain ⟨hk43, h⟩ := ao_some h
        obtain ⟨j44, hj44, h⟩ := ao_bind h
        refine an_getR j42 5 0 (q := (RX5, TX5, 11)) dX2_seeHeld_176 rfl hk43 (Nat.le_of_ble_eq_true rfl) rfl lf_X2_188 hj44 ?_
        refine ao_iload_n 2 dX2_seeHeld_179 rfl rfl ?_
        obtain ⟨hk45, h⟩ := ao_some h
        obtain ⟨hb46, h⟩ := ao_some h
        refine an_iaload j44 dX2_seeHeld_180 hk45 hb46 ?_
        exact ih.2.2.2.2.2.2.2.2.2.2 r0 r1 x2 x3 x4 (M j44 x2.toNatClampNeg) M ρ _ h
      · replace h := ao_ifT h c41
        refine ao_aload_n 0 dX2_seeHeld_157 rfl rfl ?_
        obtain ⟨j47, hj47, h⟩ := ao_bind h
        refine an_getR r0 2 0 (q := (RX2, TX2, 7)) dX2_seeHeld_158 rfl hk40 (Nat.le_of_ble_eq_true rfl) rfl lf_X2_12 hj47 ?_
        refine ao_iload_n 2 dX2_seeHeld_161 rfl rfl ?_
        refine ao_aload_n 1 dX2_seeHeld_162 rfl rfl ?_
        obtain ⟨hk48, h⟩ := ao_some h
        refine an_getI r1 7 14 (q := (RX7, TX7, 20)) dX2_seeHeld_163 rfl hk48 (Nat.le_of_ble_eq_true rfl) rfl lf_X2_224 ?_
        obtain ⟨hk49, h⟩ := ao_some h
        obtain ⟨p50, hp50, h⟩ := ao_bind h
        refine an_callVi j47 5 (q := (RX5, TX5, 11)) [.int x2, .int (M r1 14)] (aX5_valueAt (d - 1) (by omega) _ j47 x2 (M r1 14) M ρ hp50) dX2_seeHeld_166 lc_X2_234 li_X5_valueAt ls_X5_valueAt rfl hk49 rfl rfl (Nat.le_of_ble_eq_true rfl) (ao_hR (by omega) (by decide)) ?_
        refine ao_goto 181 dX2_seeHeld_169 (by decide) ?_
        exact ih.2.2.2.2.2.2.2.2.2.2 r0 r1 x2 x3 x4 p50.1 p50.2 ρ _ h
    · intro r0 r1 x2 x3 x4 s0 M ρ y h
      replace h := ao_ifF h (by decide)
      replace h := ao_ifF h (by decide)
      replace h := ao_ifF h (by decide)
      replace h := ao_ifF h (by decide)
      replace h := ao_ifF h (by decide)
      replace h := ao_ifF h (by decide)
      replace h := ao_ifF h (by decide)
      replace h := ao_ifF h (by decide)
      replace h := ao_ifF h (by decide)
      replace h := ao_ifF h (by decide)
      replace h := ao_ifT h rfl
      refine ao_istore 5 (lo' := [some (.ref (Γ.2.2.2 + r0)), some (.ref (Γ.2.2.2 + r1)), some (.int x2), some (.int x3), some (.int x4), some (.int s0)]) dX2_seeHeld_181 (Nat.le_of_ble_eq_true rfl) rfl ?_
      refine ao_aload_n 1 dX2_seeHeld_183 rfl rfl ?_
      obtain ⟨hk51, h⟩ := ao_some h
      obtain ⟨p52, hp52, h⟩ := ao_bind h
      refine an_callVr r1 7 (q := (RX7, TX7, 20)) [] (aX7_innermost (d - 1) (by omega) _ r1 M ρ hp52) dX2_seeHeld_184 lc_X2_202 li_X7_innermost ls_X7_innermost rfl hk51 rfl rfl (Nat.le_of_ble_eq_true rfl) (ao_hR (by omega) (by decide)) ?_
      refine ao_iload_n 2 dX2_seeHeld_187 rfl rfl ?_
      refine ao_iload 5 dX2_seeHeld_188 rfl ?_
      refine ao_aload_n 0 dX2_seeHeld_190 rfl rfl ?_
      obtain ⟨hk53, h⟩ := ao_some h
      obtain ⟨j54, hj54, h⟩ := ao_bind h
      refine an_getR r0 2 0 (q := (RX2, TX2, 7)) dX2_seeHeld_191 rfl hk53 (Nat.le_of_ble_eq_true rfl) rfl lf_X2_12 hj54 ?_
      obtain ⟨hk55, h⟩ := ao_some h
      obtain ⟨j56, hj56, h⟩ := ao_bind h
      refine an_getR j54 5 1 (q := (RX5, TX5, 11)) dX2_seeHeld_194 rfl hk55 (Nat.le_of_ble_eq_true rfl) rfl lf_X2_206 hj56 ?_
      refine ao_iload_n 2 dX2_seeHeld_197 rfl rfl ?_
      obtain ⟨hk57, h⟩ := ao_some h
      obtain ⟨hb58, h⟩ := ao_some h
      refine an_iaload j56 dX2_seeHeld_198 hk57 hb58 ?_
      obtain ⟨hk59, h⟩ := ao_some h
      obtain ⟨p60, hp60, h⟩ := ao_bind h
      refine an_callVv p52.1 3 (q := (RX3, TX3, 12)) [.int x2, .int s0, .int (p52.2 j56 x2.toNatClampNeg)] (aX3_addRead (d - 1) (by omega) p52.1 x2 s0 (p52.2 j56 x2.toNatClampNeg) p52.2 ρ hp60) dX2_seeHeld_199 lc_X2_209 li_X3_addRead ls_X3_addRead rfl hk59 rfl rfl (Nat.le_of_ble_eq_true rfl) (ao_hR (by omega) (by decide)) ?_
      refine ao_aload_n 1 dX2_seeHeld_202 rfl rfl ?_
      refine ao_iload 5 dX2_seeHeld_203 rfl ?_
      obtain ⟨p61, hp61, h⟩ := ao_bind h
      refine an_callVv r1 7 (q := (RX7, TX7, 20)) [.int s0] (aX7_push (d - 1) (by omega) r1 s0 p60 ρ hp61) dX2_seeHeld_205 lc_X2_152 li_X7_push ls_X7_push rfl hk51 rfl rfl (Nat.le_of_ble_eq_true rfl) (ao_hR (by omega) (by decide)) ?_
      refine ao_iconst (v := 0) dX2_seeHeld_208 (by decide) ?_
      cases h
      exact ao_ireturn dX2_seeHeld_209 rfl rfl ⟨rfl, rfl⟩
theorem me_X2_seeHeld (n : Nat) (r0 : Nat) (r1 : Nat) (x2 : Int32) (M : ao_M) (ρ : ao_H) {y : Int32 × ao_S} (h : gX2_seeHeld n r0 r1 x2 M ρ = some y) : ao_le ρ y.2.2 := (mX2_seeHeld n).1 r0 r1 x2 M ρ y h
set_option maxRecDepth 100000 in
set_option maxHeartbeats 4000000 in
theorem aX2_seeHeld {Γ : ao_C} (d : Nat) (hd : 5 ≤ d) (n : Nat) (r0 : Nat) (r1 : Nat) (x2 : Int32) (M : ao_M) (ρ : ao_H) {y : Int32 × ao_S} (h : gX2_seeHeld n r0 r1 x2 M ρ = some y) : ao_A Γ uX2_seeHeld d (ao_dc ρ y.2.2) (ao_ds ρ y.2.2) [.ref (Γ.2.2.2 + r0), .ref (Γ.2.2.2 + r1), .int x2] (M, ρ) (ao_QI y) := by
  refine ao_of (by decide) (ao_cat1 (Nat.le_of_ble_eq_true rfl)) (Nat.le_of_ble_eq_true rfl) ?_
  show ao_W Γ uX2_seeHeld (ao_rm d (ao_dc ρ y.2.2) (ao_ds ρ y.2.2)) (ao_Q Γ (ao_QI y) (ao_dc ρ y.2.2) (ao_ds ρ y.2.2)) (ao_dc ρ y.2.2) (ao_ds ρ y.2.2) 0 [some (.ref (Γ.2.2.2 + r0)), some (.ref (Γ.2.2.2 + r1)), some (.int x2), none, none, none] [] (M, ρ)
  exact (wX2_seeHeld d hd _ _ n).1 r0 r1 x2 M ρ y h

abbrev uX2_mayTouch : ao_Mi := (yX2_mayTouch, cX2_mayTouch, 5, (some .boolean), [])
def fX2_mayTouch : Nat → Nat → Nat → Nat → Int32 → Int32 → Int32 →  ao_M → ao_H → Option (Int32 × ao_S)
  | 0, _, _, _, _, _, _, _, _ => none
  | n + 1, pc, r0, r1, x2, x3, x4, M, ρ =>
    if pc = 0 then
      if ρ.2.1 r0 = 12 then
      (gX2_loserAbout r0 r1 x2 M ρ).bind fun p2 =>
      ao_let p2.1 fun v3 =>
      if v3 < 0 then
        fX2_mayTouch n 28 r0 r1 x2 v3 0 p2.2 ρ
      else
        if (6 : Int32) ≤ v3 then
          fX2_mayTouch n 28 r0 r1 x2 v3 0 p2.2 ρ
        else
          (ρ.1 r0 1).bind fun j6 =>
          if ρ.2.1 j6 = 4 then
          if ¬ (v3 < 0 ∨ ρ.2.2.1 j6 ≤ v3.toNatClampNeg) then
          (ρ.1 j6 v3.toNatClampNeg).bind fun j9 =>
          (gX2_restart n r0 j9 (0 : Int32) p2.2 ρ).bind fun p10 =>
          fX2_mayTouch n 28 r0 r1 x2 v3 0 p10.1 p10.2
          else none
          else none
      else none
    else if pc = 28 then
      if ρ.2.1 r1 = 17 then
      if x3 = (M r1 0) then
        some ((0 : Int32), M, ρ)
      else
        if ρ.2.1 r0 = 12 then
        (gX2_outermostWrong n r0 r1 M ρ).bind fun p14 =>
        ao_let p14.1 fun v15 =>
        (gX2_restart n r0 r1 v15 p14.2 ρ).bind fun p16 =>
        fX2_mayTouch n 52 r0 r1 x2 x3 v15 p16.1 p16.2
        else none
      else none
    else if pc = 52 then
      if 0 ≤ x4 then
        some ((0 : Int32), M, ρ)
      else
        some ((1 : Int32), M, ρ)
    else none
def gX2_mayTouch (n : Nat) (r0 : Nat) (r1 : Nat) (x2 : Int32) (M : ao_M) (ρ : ao_H) : Option (Int32 × ao_S) := fX2_mayTouch n 0 r0 r1 x2 0 0 M ρ
set_option maxRecDepth 100000 in
set_option maxHeartbeats 4000000 in
theorem mX2_mayTouch : ∀ n : Nat, (∀ (r0 : Nat) (r1 : Nat) (x2 : Int32) (M : ao_M) (ρ : ao_H) (y : Int32 × ao_S), fX2_mayTouch n 0 r0 r1 x2 0 0 M ρ = some y → ao_le ρ y.2.2) ∧ (∀ (r0 : Nat) (r1 : Nat) (x2 : Int32) (x3 : Int32) (M : ao_M) (ρ : ao_H) (y : Int32 × ao_S), fX2_mayTouch n 28 r0 r1 x2 x3 0 M ρ = some y → ao_le ρ y.2.2) ∧ (∀ (r0 : Nat) (r1 : Nat) (x2 : Int32) (x3 : Int32) (x4 : Int32) (M : ao_M) (ρ : ao_H) (y : Int32 × ao_S), fX2_mayTouch n 52 r0 r1 x2 x3 x4 M ρ = some y → ao_le ρ y.2.2) := by
  intro n
  induction n with
  | zero => exact ⟨fun _ _ _ _ _ _ h => ao_no h, fun _ _ _ _ _ _ _ h => ao_no h, fun _ _ _ _ _ _ _ _ h => ao_no h⟩
  | succ n ih =>
    refine ⟨?_, ?_, ?_⟩
    · intro r0 r1 x2 M ρ y h
      replace h := ao_ifT h rfl
      obtain ⟨-, h⟩ := ao_some h
      obtain ⟨p2, hp2, h⟩ := ao_bind h
      replace h := ao_letD h rfl
      generalize p2.1 = v3 at h
      rcases ao_ifC h with h | h
      · exact ih.2.1 r0 r1 x2 v3 p2.2 ρ _ h
      · rcases ao_ifC h with h | h
        · exact ih.2.1 r0 r1 x2 v3 p2.2 ρ _ h
        · obtain ⟨j6, hj6, h⟩ := ao_bind h
          obtain ⟨-, h⟩ := ao_some h
          obtain ⟨-, h⟩ := ao_some h
          obtain ⟨j9, hj9, h⟩ := ao_bind h
          obtain ⟨p10, hp10, h⟩ := ao_bind h
          exact ao_le_tr (me_X2_restart n r0 j9 (0 : Int32) p2.2 ρ hp10) (ih.2.1 r0 r1 x2 v3 p10.1 p10.2 _ h)
    · intro r0 r1 x2 x3 M ρ y h
      replace h := ao_ifF h (by decide)
      replace h := ao_ifT h rfl
      obtain ⟨-, h⟩ := ao_some h
      rcases ao_ifC h with h | h
      · cases h
        exact ao_le_rf _
      · obtain ⟨-, h⟩ := ao_some h
        obtain ⟨p14, hp14, h⟩ := ao_bind h
        replace h := ao_letD h rfl
        generalize p14.1 = v15 at h
        obtain ⟨p16, hp16, h⟩ := ao_bind h
        exact ao_le_tr (me_X2_restart n r0 r1 v15 p14.2 ρ hp16) (ih.2.2 r0 r1 x2 x3 v15 p16.1 p16.2 _ h)
    · intro r0 r1 x2 x3 x4 M ρ y h
      replace h := ao_ifF h (by decide)
      replace h := ao_ifF h (by decide)
      replace h := ao_ifT h rfl
      rcases ao_ifC h with h | h
      · cases h
        exact ao_le_rf _
      · cases h
        exact ao_le_rf _
set_option maxRecDepth 100000 in
set_option maxHeartbeats 4000000 in
theorem wX2_mayTouch {Γ : ao_C} (d : Nat) (hd : 5 ≤ d) (MC MS : Nat) : ∀ n : Nat, (∀ (r0 : Nat) (r1 : Nat) (x2 : Int32) (M : ao_M) (ρ : ao_H) (y : Int32 × ao_S), fX2_mayTouch n 0 r0 r1 x2 0 0 M ρ = some y → ao_W Γ uX2_mayTouch (ao_rm d MC MS) (ao_Q Γ (ao_QI y) MC MS) (ao_dc ρ y.2.2) (ao_ds ρ y.2.2) 0 [some (.ref (Γ.2.2.2 + r0)), some (.ref (Γ.2.2.2 + r1)), some (.int x2), none, none] [] (M, ρ)) ∧ (∀ (r0 : Nat) (r1 : Nat) (x2 : Int32) (x3 : Int32) (M : ao_M) (ρ : ao_H) (y : Int32 × ao_S), fX2_mayTouch n 28 r0 r1 x2 x3 0 M ρ = some y → ao_W Γ uX2_mayTouch (ao_rm d MC MS) (ao_Q Γ (ao_QI y) MC MS) (ao_dc ρ y.2.2) (ao_ds ρ y.2.2) 28 [some (.ref (Γ.2.2.2 + r0)), some (.ref (Γ.2.2.2 + r1)), some (.int x2), some (.int x3), none] [] (M, ρ)) ∧ (∀ (r0 : Nat) (r1 : Nat) (x2 : Int32) (x3 : Int32) (x4 : Int32) (M : ao_M) (ρ : ao_H) (y : Int32 × ao_S), fX2_mayTouch n 52 r0 r1 x2 x3 x4 M ρ = some y → ao_W Γ uX2_mayTouch (ao_rm d MC MS) (ao_Q Γ (ao_QI y) MC MS) (ao_dc ρ y.2.2) (ao_ds ρ y.2.2) 52 [some (.ref (Γ.2.2.2 + r0)), some (.ref (Γ.2.2.2 + r1)), some (.int x2), some (.int x3), some (.int x4)] [] (M, ρ)) := by
  intro n
  induction n with
  | zero => exact ⟨fun _ _ _ _ _ _ h => ao_no h, fun _ _ _ _ _ _ _ h => ao_no h, fun _ _ _ _ _ _ _ _ h => ao_no h⟩
  | succ n ih =>
    refine ⟨?_, ?_, ?_⟩
    · intro r0 r1 x2 M ρ y h
      replace h := ao_ifT h rfl
      refine ao_aload_n 0 dX2_mayTouch_0 rfl rfl ?_
      refine ao_aload_n 1 dX2_mayTouch_1 rfl rfl ?_
      refine ao_iload_n 2 dX2_mayTouch_2 rfl rfl ?_
      obtain ⟨hk1, h⟩ := ao_some h
      obtain ⟨p2, hp2, h⟩ := ao_bind h
      refine an_callVi r0 2 (q := (RX2, TX2, 7)) [.ref (Γ.2.2.2 + r1), .int x2] (aX2_loserAbout (d - 1) (by omega) r0 r1 x2 M ρ hp2) dX2_mayTouch_3 lc_X2_248 li_X2_loserAbout ls_X2_loserAbout rfl hk1 rfl rfl (Nat.le_of_ble_eq_true rfl) (ao_hR (by omega) (by decide)) ?_
      refine an_topi (fun v3 hv3 => ?_)
      replace h := ao_letD h hv3
      refine ao_istore_n 3 (lo' := [some (.ref (Γ.2.2.2 + r0)), some (.ref (Γ.2.2.2 + r1)), some (.int x2), some (.int v3), none]) dX2_mayTouch_6 rfl (Nat.le_of_ble_eq_true rfl) rfl ?_
      refine ao_iload_n 3 dX2_mayTouch_7 rfl rfl ?_
      refine ao_if_lt 28 dX2_mayTouch_8 (by decide) (fun c4 => ?_) (fun c4 => ?_)
      · replace h := ao_ifT h c4
        exact ih.2.1 r0 r1 x2 v3 p2.2 ρ _ h
      · replace h := ao_ifF h c4
        refine ao_iload_n 3 dX2_mayTouch_11 rfl rfl ?_
        refine ao_bipush (v := 6) dX2_mayTouch_12 (by decide) ?_
        refine ao_icmp_ge 28 dX2_mayTouch_14 (by decide) (fun c5 => ?_) (fun c5 => ?_)
        · replace h := ao_ifT h c5
          exact ih.2.1 r0 r1 x2 v3 p2.2 ρ _ h
        · replace h := ao_ifF h c5
          refine ao_aload_n 0 dX2_mayTouch_17 rfl rfl ?_
          refine ao_aload_n 0 dX2_mayTouch_18 rfl rfl ?_
          obtain ⟨j6, hj6, h⟩ := ao_bind h
          refine an_getR r0 2 1 (q := (RX2, TX2, 7)) dX2_mayTouch_19 rfl hk1 (Nat.le_of_ble_eq_true rfl) rfl lf_X2_34 hj6 ?_
          refine ao_iload_n 3 dX2_mayTouch_22 rfl rfl ?_
          obtain ⟨hk7, h⟩ := ao_some h
          obtain ⟨hb8, h⟩ := ao_some h
          obtain ⟨j9, hj9, h⟩ := ao_bind h
          refine an_aaload j6 4 dX2_mayTouch_23 hk7 (by decide) hb8 hj9 ?_
          refine ao_iconst (v := 0) dX2_mayTouch_24 (by decide) ?_
          obtain ⟨p10, hp10, h⟩ := ao_bind h
          refine ba_callVv r0 2 (q := (RX2, TX2, 7)) [.ref (Γ.2.2.2 + j9), .int (0 : Int32)] (aX2_restart (d - 1) (by omega) n r0 j9 (0 : Int32) p2.2 ρ hp10) dX2_mayTouch_25 lc_X2_230 li_X2_restart ls_X2_restart rfl hk1 rfl rfl (Nat.le_of_ble_eq_true rfl) (ao_hR (by omega) (by decide)) (ao_leC (me_X2_restart n r0 j9 (0 : Int32) p2.2 ρ hp10) ((mX2_mayTouch n).2.1 r0 r1 x2 v3 p10.1 p10.2 _ h)) (ao_leS (me_X2_restart n r0 j9 (0 : Int32) p2.2 ρ hp10) ((mX2_mayTouch n).2.1 r0 r1 x2 v3 p10.1 p10.2 _ h)) ?_
          exact ih.2.1 r0 r1 x2 v3 p10.1 p10.2 _ h
    · intro r0 r1 x2 x3 M ρ y h
      replace h := ao_ifF h (by decide)
      replace h := ao_ifT h rfl
      refine ao_iload_n 3 dX2_mayTouch_28 rfl rfl ?_
      refine ao_aload_n 1 dX2_mayTouch_29 rfl rfl ?_
      obtain ⟨hk11, h⟩ := ao_some h
      refine an_getI r1 7 0 (q := (RX7, TX7, 20)) dX2_mayTouch_30 rfl hk11 (Nat.le_of_ble_eq_true rfl) rfl lf_X2_171 ?_
      refine ao_icmp_ne 38 dX2_mayTouch_33 (by decide) (fun c12 => ?_) (fun c12 => ?_)
      · replace h := ao_ifF h c12
        refine ao_aload_n 0 dX2_mayTouch_38 rfl rfl ?_
        refine ao_aload_n 1 dX2_mayTouch_39 rfl rfl ?_
        obtain ⟨hk13, h⟩ := ao_some h
        obtain ⟨p14, hp14, h⟩ := ao_bind h
        refine an_callVi r0 2 (q := (RX2, TX2, 7)) [.ref (Γ.2.2.2 + r1)] (aX2_outermostWrong (d - 1) (by omega) _ r0 r1 M ρ hp14) dX2_mayTouch_40 lc_X2_227 li_X2_outermostWrong ls_X2_outermostWrong rfl hk13 rfl rfl (Nat.le_of_ble_eq_true rfl) (ao_hR (by omega) (by decide)) ?_
        refine an_topi (fun v15 hv15 => ?_)
        replace h := ao_letD h hv15
        refine ao_istore 4 (lo' := [some (.ref (Γ.2.2.2 + r0)), some (.ref (Γ.2.2.2 + r1)), some (.int x2), some (.int x3), some (.int v15)]) dX2_mayTouch_43 (Nat.le_of_ble_eq_true rfl) rfl ?_
        refine ao_aload_n 0 dX2_mayTouch_45 rfl rfl ?_
        refine ao_aload_n 1 dX2_mayTouch_46 rfl rfl ?_
        refine ao_iload 4 dX2_mayTouch_47 rfl ?_
        obtain ⟨p16, hp16, h⟩ := ao_bind h
        refine ba_callVv r0 2 (q := (RX2, TX2, 7)) [.ref (Γ.2.2.2 + r1), .int v15] (aX2_restart (d - 1) (by omega) n r0 r1 v15 p14.2 ρ hp16) dX2_mayTouch_49 lc_X2_230 li_X2_restart ls_X2_restart rfl hk13 rfl rfl (Nat.le_of_ble_eq_true rfl) (ao_hR (by omega) (by decide)) (ao_leC (me_X2_restart n r0 r1 v15 p14.2 ρ hp16) ((mX2_mayTouch n).2.2 r0 r1 x2 x3 v15 p16.1 p16.2 _ h)) (ao_leS (me_X2_restart n r0 r1 v15 p14.2 ρ hp16) ((mX2_mayTouch n).2.2 r0 r1 x2 x3 v15 p16.1 p16.2 _ h)) ?_
        exact ih.2.2 r0 r1 x2 x3 v15 p16.1 p16.2 _ h
      · replace h := ao_ifT h c12
        refine ao_iconst (v := 0) dX2_mayTouch_36 (by decide) ?_
        cases h
        exact ao_ireturn dX2_mayTouch_37 rfl rfl ⟨rfl, rfl⟩
    · intro r0 r1 x2 x3 x4 M ρ y h
      replace h := ao_ifF h (by decide)
      replace h := ao_ifF h (by decide)
      replace h := ao_ifT h rfl
      refine ao_iload 4 dX2_mayTouch_52 rfl ?_
      refine ao_if_ge 61 dX2_mayTouch_54 (by decide) (fun c17 => ?_) (fun c17 => ?_)
      · replace h := ao_ifT h c17
        refine ao_iconst (v := 0) dX2_mayTouch_61 (by decide) ?_
        cases h
        exact ao_ireturn dX2_mayTouch_62 rfl rfl ⟨rfl, rfl⟩
      · replace h := ao_ifF h c17
        refine ao_iconst (v := 1) dX2_mayTouch_57 (by decide) ?_
        refine ao_goto 62 dX2_mayTouch_58 (by decide) ?_
        cases h
        exact ao_ireturn dX2_mayTouch_62 rfl rfl ⟨rfl, rfl⟩
theorem me_X2_mayTouch (n : Nat) (r0 : Nat) (r1 : Nat) (x2 : Int32) (M : ao_M) (ρ : ao_H) {y : Int32 × ao_S} (h : gX2_mayTouch n r0 r1 x2 M ρ = some y) : ao_le ρ y.2.2 := (mX2_mayTouch n).1 r0 r1 x2 M ρ y h
set_option maxRecDepth 100000 in
set_option maxHeartbeats 4000000 in
theorem aX2_mayTouch {Γ : ao_C} (d : Nat) (hd : 5 ≤ d) (n : Nat) (r0 : Nat) (r1 : Nat) (x2 : Int32) (M : ao_M) (ρ : ao_H) {y : Int32 × ao_S} (h : gX2_mayTouch n r0 r1 x2 M ρ = some y) : ao_A Γ uX2_mayTouch d (ao_dc ρ y.2.2) (ao_ds ρ y.2.2) [.ref (Γ.2.2.2 + r0), .ref (Γ.2.2.2 + r1), .int x2] (M, ρ) (ao_QI y) := by
  refine ao_of (by decide) (ao_cat1 (Nat.le_of_ble_eq_true rfl)) (Nat.le_of_ble_eq_true rfl) ?_
  show ao_W Γ uX2_mayTouch (ao_rm d (ao_dc ρ y.2.2) (ao_ds ρ y.2.2)) (ao_Q Γ (ao_QI y) (ao_dc ρ y.2.2) (ao_ds ρ y.2.2)) (ao_dc ρ y.2.2) (ao_ds ρ y.2.2) 0 [some (.ref (Γ.2.2.2 + r0)), some (.ref (Γ.2.2.2 + r1)), some (.int x2), none, none] [] (M, ρ)
  exact (wX2_mayTouch d hd _ _ n).1 r0 r1 x2 M ρ y h

abbrev uX2_finish : ao_Mi := (yX2_finish, cX2_finish, 4, none, [])
def fX2_finish : Nat → Nat → Nat → Nat → Nat → Int32 →  ao_M → ao_H → Option (ao_S)
  | 0, _, _, _, _, _, _, _ => none
  | n + 1, pc, r0, r1, r2, x3, M, ρ =>
    if pc = 0 then
      if ρ.2.1 r1 = 17 then
      (gX7_level n r1 (0 : Int32) M ρ).bind fun p2 =>
      if ρ.2.1 r0 = 12 then
      (gX2_writesAtOnce n r0 p2.2 ρ).bind fun p4 =>
      if p4.1 = 0 then
        if ρ.2.1 p2.1 = 13 then
        if (p4.2 p2.1 6) = 0 then
          fX2_finish n 83 r0 r1 p2.1 0 p4.2 ρ
        else
          (ρ.1 r0 0).bind fun j8 =>
          if ρ.2.1 j8 = 15 then
          ao_let (ao_u p4.2 j8 4 ((p4.2 j8 4) + (1 : Int32))) fun M10 =>
          fX2_finish n 49 r0 r1 p2.1 (0 : Int32) M10 ρ
          else none
        else none
      else
        (ρ.1 r0 0).bind fun j11 =>
        if ρ.2.1 j11 = 15 then
        (gX5_release n j11 (p4.2 r1 0) p4.2 ρ).bind fun p13 =>
        fX2_finish n 24 r0 r1 p2.1 0 p13.1 p13.2
        else none
      else none
      else none
    else if pc = 24 then
      fX2_finish n 83 r0 r1 r2 0 M ρ
    else if pc = 49 then
      if (26 : Int32) ≤ x3 then
        fX2_finish n 83 r0 r1 r2 0 M ρ
      else
        if ρ.2.1 r2 = 13 then
        (gX3_wrote r2 x3 M ρ).bind fun p16 =>
        if p16.1 = 0 then
          fX2_finish n 77 r0 r1 r2 x3 p16.2 ρ
        else
          if ρ.2.1 r0 = 12 then
          (ρ.1 r0 0).bind fun j19 =>
          (ρ.1 r2 5).bind fun j20 =>
          if ρ.2.1 j20 = 0 then
          if ¬ (x3 < 0 ∨ ρ.2.2.1 j20 ≤ x3.toNatClampNeg) then
          if ρ.2.1 j19 = 15 then
          (gX5_change n j19 x3 (p16.2 j20 x3.toNatClampNeg) p16.2 ρ).bind fun p24 =>
          fX2_finish n 77 r0 r1 r2 x3 p24.1 p24.2
          else none
          else none
          else none
          else none
        else none
    else if pc = 77 then
      ao_let (x3 + (1 : Int32)) fun v25 =>
      fX2_finish n 49 r0 r1 r2 v25 M ρ
    else if pc = 83 then
      if ρ.2.1 r0 = 12 then
      (gX2_writeRecord n r0 r1 r2 M ρ).bind fun p27 =>
      fX2_finish n 91 r0 r1 r2 (0 : Int32) p27 ρ
      else none
    else if pc = 91 then
      if ρ.2.1 r1 = 17 then
      if (M r1 13) ≤ x3 then
        fX2_finish n 129 r0 r1 r2 x3 M ρ
      else
        if (200 : Int32) ≤ x3 then
          fX2_finish n 129 r0 r1 r2 x3 M ρ
        else
          if ρ.2.1 r0 = 12 then
          (ρ.1 r0 2).bind fun j32 =>
          (ρ.1 r1 12).bind fun j33 =>
          if ρ.2.1 j33 = 0 then
          if ¬ (x3 < 0 ∨ ρ.2.2.1 j33 ≤ x3.toNatClampNeg) then
          if ρ.2.1 j32 = 18 then
          (gX8_add j32 (M r1 0) (M j33 x3.toNatClampNeg) M ρ).bind fun p37 =>
          ao_let (x3 + (1 : Int32)) fun v38 =>
          fX2_finish n 91 r0 r1 r2 v38 p37 ρ
          else none
          else none
          else none
          else none
      else none
    else if pc = 129 then
      if ρ.2.1 r1 = 17 then
      ao_let (ao_u M r1 13 (0 : Int32)) fun M40 =>
      ao_let (ao_u M40 r1 18 ((M40 r1 18) + (1 : Int32))) fun M41 =>
      ao_let (ao_u M41 r1 8 (0 : Int32)) fun M42 =>
      ao_let (ao_u M42 r1 2 (1 : Int32)) fun M43 =>
      some (M43, ρ)
      else none
    else none
def gX2_finish (n : Nat) (r0 : Nat) (r1 : Nat) (M : ao_M) (ρ : ao_H) : Option (ao_S) := fX2_finish n 0 r0 r1 0 0 M ρ
set_option maxRecDepth 100000 in
set_option maxHeartbeats 4000000 in
theorem mX2_finish : ∀ n : Nat, (∀ (r0 : Nat) (r1 : Nat) (M : ao_M) (ρ : ao_H) (y : ao_S), fX2_finish n 0 r0 r1 0 0 M ρ = some y → ao_le ρ y.2) ∧ (∀ (r0 : Nat) (r1 : Nat) (r2 : Nat) (M : ao_M) (ρ : ao_H) (y : ao_S), fX2_finish n 24 r0 r1 r2 0 M ρ = some y → ao_le ρ y.2) ∧ (∀ (r0 : Nat) (r1 : Nat) (r2 : Nat) (x3 : Int32) (M : ao_M) (ρ : ao_H) (y : ao_S), fX2_finish n 49 r0 r1 r2 x3 M ρ = some y → ao_le ρ y.2) ∧ (∀ (r0 : Nat) (r1 : Nat) (r2 : Nat) (x3 : Int32) (M : ao_M) (ρ : ao_H) (y : ao_S), fX2_finish n 77 r0 r1 r2 x3 M ρ = some y → ao_le ρ y.2) ∧ (∀ (r0 : Nat) (r1 : Nat) (r2 : Nat) (M : ao_M) (ρ : ao_H) (y : ao_S), fX2_finish n 83 r0 r1 r2 0 M ρ = some y → ao_le ρ y.2) ∧ (∀ (r0 : Nat) (r1 : Nat) (r2 : Nat) (x3 : Int32) (M : ao_M) (ρ : ao_H) (y : ao_S), fX2_finish n 91 r0 r1 r2 x3 M ρ = some y → ao_le ρ y.2) ∧ (∀ (r0 : Nat) (r1 : Nat) (r2 : Nat) (x3 : Int32) (M : ao_M) (ρ : ao_H) (y : ao_S), fX2_finish n 129 r0 r1 r2 x3 M ρ = some y → ao_le ρ y.2) := by
  intro n
  induction n with
  | zero => exact ⟨fun _ _ _ _ _ h => ao_no h, fun _ _ _ _ _ _ h => ao_no h, fun _ _ _ _ _ _ _ h => ao_no h, fun _ _ _ _ _ _ _ h => ao_no h, fun _ _ _ _ _ _ h => ao_no h, fun _ _ _ _ _ _ _ h => ao_no h, fun _ _ _ _ _ _ _ h => ao_no h⟩
  | succ n ih =>
    refine ⟨?_, ?_, ?_, ?_, ?_, ?_, ?_⟩
    · intro r0 r1 M ρ y h
      replace h := ao_ifT h rfl
      obtain ⟨-, h⟩ := ao_some h
      obtain ⟨p2, hp2, h⟩ := ao_bind h
      obtain ⟨-, h⟩ := ao_some h
      obtain ⟨p4, hp4, h⟩ := ao_bind h
      rcases ao_ifC h with h | h
      · obtain ⟨-, h⟩ := ao_some h
        rcases ao_ifC h with h | h
        · exact ih.2.2.2.2.1 r0 r1 p2.1 p4.2 ρ _ h
        · obtain ⟨j8, hj8, h⟩ := ao_bind h
          obtain ⟨-, h⟩ := ao_some h
          replace h := ao_letD h rfl
          generalize (ao_u p4.2 j8 4 ((p4.2 j8 4) + (1 : Int32))) = M10 at h
          exact ih.2.2.1 r0 r1 p2.1 (0 : Int32) M10 ρ _ h
      · obtain ⟨j11, hj11, h⟩ := ao_bind h
        obtain ⟨-, h⟩ := ao_some h
        obtain ⟨p13, hp13, h⟩ := ao_bind h
        exact ao_le_tr (me_X5_release n j11 (p4.2 r1 0) p4.2 ρ hp13) (ih.2.1 r0 r1 p2.1 p13.1 p13.2 _ h)
    · intro r0 r1 r2 M ρ y h
      replace h := ao_ifF h (by decide)
      replace h := ao_ifT h rfl
      exact ih.2.2.2.2.1 r0 r1 r2 M ρ _ h
    · intro r0 r1 r2 x3 M ρ y h
      replace h := ao_ifF h (by decide)
      replace h := ao_ifF h (by decide)
      replace h := ao_ifT h rfl
      rcases ao_ifC h with h | h
      · exact ih.2.2.2.2.1 r0 r1 r2 M ρ _ h
      · obtain ⟨-, h⟩ := ao_some h
        obtain ⟨p16, hp16, h⟩ := ao_bind h
        rcases ao_ifC h with h | h
        · exact ih.2.2.2.1 r0 r1 r2 x3 p16.2 ρ _ h
        · obtain ⟨-, h⟩ := ao_some h
          obtain ⟨j19, hj19, h⟩ := ao_bind h
          obtain ⟨j20, hj20, h⟩ := ao_bind h
          obtain ⟨-, h⟩ := ao_some h
          obtain ⟨-, h⟩ := ao_some h
          obtain ⟨-, h⟩ := ao_some h
          obtain ⟨p24, hp24, h⟩ := ao_bind h
          exact ao_le_tr (me_X5_change n j19 x3 (p16.2 j20 x3.toNatClampNeg) p16.2 ρ hp24) (ih.2.2.2.1 r0 r1 r2 x3 p24.1 p24.2 _ h)
    · intro r0 r1 r2 x3 M ρ y h
      replace h := ao_ifF h (by decide)
      replace h := ao_ifF h (by decide)
      replace h := ao_ifF h (by decide)
      replace h := ao_ifT h rfl
      replace h := ao_letD h rfl
      generalize (x3 + (1 : Int32)) = v25 at h
      exact ih.2.2.1 r0 r1 r2 v25 M ρ _ h
    · intro r0 r1 r2 M ρ y h
      replace h := ao_ifF h (by decide)
      replace h := ao_ifF h (by decide)
      replace h := ao_ifF h (by decide)
      replace h := ao_ifF h (by decide)
      replace h := ao_ifT h rfl
      obtain ⟨-, h⟩ := ao_some h
      obtain ⟨p27, hp27, h⟩ := ao_bind h
      exact ih.2.2.2.2.2.1 r0 r1 r2 (0 : Int32) p27 ρ _ h
    · intro r0 r1 r2 x3 M ρ y h
      replace h := ao_ifF h (by decide)
      replace h := ao_ifF h (by decide)
      replace h := ao_ifF h (by decide)
      replace h := ao_ifF h (by decide)
      replace h := ao_ifF h (by decide)
      replace h := ao_ifT h rfl
      obtain ⟨-, h⟩ := ao_some h
      rcases ao_ifC h with h | h
      · exact ih.2.2.2.2.2.2 r0 r1 r2 x3 M ρ _ h
      · rcases ao_ifC h with h | h
        · exact ih.2.2.2.2.2.2 r0 r1 r2 x3 M ρ _ h
        · obtain ⟨-, h⟩ := ao_some h
          obtain ⟨j32, hj32, h⟩ := ao_bind h
          obtain ⟨j33, hj33, h⟩ := ao_bind h
          obtain ⟨-, h⟩ := ao_some h
          obtain ⟨-, h⟩ := ao_some h
          obtain ⟨-, h⟩ := ao_some h
          obtain ⟨p37, hp37, h⟩ := ao_bind h
          replace h := ao_letD h rfl
          generalize (x3 + (1 : Int32)) = v38 at h
          exact ih.2.2.2.2.2.1 r0 r1 r2 v38 p37 ρ _ h
    · intro r0 r1 r2 x3 M ρ y h
      replace h := ao_ifF h (by decide)
      replace h := ao_ifF h (by decide)
      replace h := ao_ifF h (by decide)
      replace h := ao_ifF h (by decide)
      replace h := ao_ifF h (by decide)
      replace h := ao_ifF h (by decide)
      replace h := ao_ifT h rfl
      obtain ⟨-, h⟩ := ao_some h
      replace h := ao_letD h rfl
      generalize (ao_u M r1 13 (0 : Int32)) = M40 at h
      replace h := ao_letD h rfl
      generalize (ao_u M40 r1 18 ((M40 r1 18) + (1 : Int32))) = M41 at h
      replace h := ao_letD h rfl
      generalize (ao_u M41 r1 8 (0 : Int32)) = M42 at h
      replace h := ao_letD h rfl
      generalize (ao_u M42 r1 2 (1 : Int32)) = M43 at h
      cases h
      exact ao_le_rf _
set_option maxRecDepth 100000 in
set_option maxHeartbeats 4000000 in
theorem wX2_finish {Γ : ao_C} (d : Nat) (hd : 4 ≤ d) (MC MS : Nat) : ∀ n : Nat, (∀ (r0 : Nat) (r1 : Nat) (M : ao_M) (ρ : ao_H) (y : ao_S), fX2_finish n 0 r0 r1 0 0 M ρ = some y → ao_W Γ uX2_finish (ao_rm d MC MS) (ao_Q Γ (ao_QV y) MC MS) (ao_dc ρ y.2) (ao_ds ρ y.2) 0 [some (.ref (Γ.2.2.2 + r0)), some (.ref (Γ.2.2.2 + r1)), none, none] [] (M, ρ)) ∧ (∀ (r0 : Nat) (r1 : Nat) (r2 : Nat) (M : ao_M) (ρ : ao_H) (y : ao_S), fX2_finish n 24 r0 r1 r2 0 M ρ = some y → ao_W Γ uX2_finish (ao_rm d MC MS) (ao_Q Γ (ao_QV y) MC MS) (ao_dc ρ y.2) (ao_ds ρ y.2) 24 [some (.ref (Γ.2.2.2 + r0)), some (.ref (Γ.2.2.2 + r1)), some (.ref (Γ.2.2.2 + r2)), none] [] (M, ρ)) ∧ (∀ (r0 : Nat) (r1 : Nat) (r2 : Nat) (x3 : Int32) (M : ao_M) (ρ : ao_H) (y : ao_S), fX2_finish n 49 r0 r1 r2 x3 M ρ = some y → ao_W Γ uX2_finish (ao_rm d MC MS) (ao_Q Γ (ao_QV y) MC MS) (ao_dc ρ y.2) (ao_ds ρ y.2) 49 [some (.ref (Γ.2.2.2 + r0)), some (.ref (Γ.2.2.2 + r1)), some (.ref (Γ.2.2.2 + r2)), some (.int x3)] [] (M, ρ)) ∧ (∀ (r0 : Nat) (r1 : Nat) (r2 : Nat) (x3 : Int32) (M : ao_M) (ρ : ao_H) (y : ao_S), fX2_finish n 77 r0 r1 r2 x3 M ρ = some y → ao_W Γ uX2_finish (ao_rm d MC MS) (ao_Q Γ (ao_QV y) MC MS) (ao_dc ρ y.2) (ao_ds ρ y.2) 77 [some (.ref (Γ.2.2.2 + r0)), some (.ref (Γ.2.2.2 + r1)), some (.ref (Γ.2.2.2 + r2)), some (.int x3)] [] (M, ρ)) ∧ (∀ (r0 : Nat) (r1 : Nat) (r2 : Nat) (M : ao_M) (ρ : ao_H) (y : ao_S), fX2_finish n 83 r0 r1 r2 0 M ρ = some y → ao_W Γ uX2_finish (ao_rm d MC MS) (ao_Q Γ (ao_QV y) MC MS) (ao_dc ρ y.2) (ao_ds ρ y.2) 83 [some (.ref (Γ.2.2.2 + r0)), some (.ref (Γ.2.2.2 + r1)), some (.ref (Γ.2.2.2 + r2)), none] [] (M, ρ)) ∧ (∀ (r0 : Nat) (r1 : Nat) (r2 : Nat) (x3 : Int32) (M : ao_M) (ρ : ao_H) (y : ao_S), fX2_finish n 91 r0 r1 r2 x3 M ρ = some y → ao_W Γ uX2_finish (ao_rm d MC MS) (ao_Q Γ (ao_QV y) MC MS) (ao_dc ρ y.2) (ao_ds ρ y.2) 91 [some (.ref (Γ.2.2.2 + r0)), some (.ref (Γ.2.2.2 + r1)), some (.ref (Γ.2.2.2 + r2)), some (.int x3)] [] (M, ρ)) ∧ (∀ (r0 : Nat) (r1 : Nat) (r2 : Nat) (x3 : Int32) (M : ao_M) (ρ : ao_H) (y : ao_S), fX2_finish n 129 r0 r1 r2 x3 M ρ = some y → ao_W Γ uX2_finish (ao_rm d MC MS) (ao_Q Γ (ao_QV y) MC MS) (ao_dc ρ y.2) (ao_ds ρ y.2) 129 [some (.ref (Γ.2.2.2 + r0)), some (.ref (Γ.2.2.2 + r1)), some (.ref (Γ.2.2.2 + r2)), some (.int x3)] [] (M, ρ)) := by
  intro n
  induction n with
  | zero => exact ⟨fun _ _ _ _ _ h => ao_no h, fun _ _ _ _ _ _ h => ao_no h, fun _ _ _ _ _ _ _ h => ao_no h, fun _ _ _ _ _ _ _ h => ao_no h, fun _ _ _ _ _ _ h => ao_no h, fun _ _ _ _ _ _ _ h => ao_no h, fun _ _ _ _ _ _ _ h => ao_no h⟩
  | succ n ih =>
    refine ⟨?_, ?_, ?_, ?_, ?_, ?_, ?_⟩
    · intro r0 r1 M ρ y h
      replace h := ao_ifT h rfl
      refine ao_aload_n 1 dX2_finish_0 rfl rfl ?_
      refine ao_iconst (v := 0) dX2_finish_1 (by decide) ?_
      obtain ⟨hk1, h⟩ := ao_some h
      obtain ⟨p2, hp2, h⟩ := ao_bind h
      refine an_callVr r1 7 (q := (RX7, TX7, 20)) [.int (0 : Int32)] (aX7_level (d - 1) (by omega) _ r1 (0 : Int32) M ρ hp2) dX2_finish_2 lc_X2_213 li_X7_level ls_X7_level rfl hk1 rfl rfl (Nat.le_of_ble_eq_true rfl) (ao_hR (by omega) (by decide)) ?_
      refine ao_astore_n 2 (lo' := [some (.ref (Γ.2.2.2 + r0)), some (.ref (Γ.2.2.2 + r1)), some (.ref (Γ.2.2.2 + p2.1)), none]) dX2_finish_5 rfl (Nat.le_of_ble_eq_true rfl) rfl ?_
      refine ao_aload_n 0 dX2_finish_6 rfl rfl ?_
      obtain ⟨hk3, h⟩ := ao_some h
      obtain ⟨p4, hp4, h⟩ := ao_bind h
      refine an_callVi r0 2 (q := (RX2, TX2, 7)) [] (aX2_writesAtOnce (d - 1) (by omega) _ r0 p2.2 ρ hp4) dX2_finish_7 lc_X2_178 li_X2_writesAtOnce ls_X2_writesAtOnce rfl hk3 rfl rfl (Nat.le_of_ble_eq_true rfl) (ao_hR (by omega) (by decide)) ?_
      refine ao_if_eq 27 dX2_finish_10 (by decide) (fun c5 => ?_) (fun c5 => ?_)
      · replace h := ao_ifT h c5
        refine ao_aload_n 2 dX2_finish_27 rfl rfl ?_
        obtain ⟨hk6, h⟩ := ao_some h
        refine an_getI p2.1 3 6 (q := (RX3, TX3, 12)) dX2_finish_28 rfl hk6 (Nat.le_of_ble_eq_true rfl) rfl lf_X2_304 ?_
        refine ao_if_eq 83 dX2_finish_31 (by decide) (fun c7 => ?_) (fun c7 => ?_)
        · replace h := ao_ifT h c7
          exact ih.2.2.2.2.1 r0 r1 p2.1 p4.2 ρ _ h
        · replace h := ao_ifF h c7
          refine ao_aload_n 0 dX2_finish_34 rfl rfl ?_
          obtain ⟨j8, hj8, h⟩ := ao_bind h
          refine an_getR r0 2 0 (q := (RX2, TX2, 7)) dX2_finish_35 rfl hk3 (Nat.le_of_ble_eq_true rfl) rfl lf_X2_12 hj8 ?_
          refine ao_dup dX2_finish_38 rfl ?_
          obtain ⟨hk9, h⟩ := ao_some h
          refine an_getI j8 5 4 (q := (RX5, TX5, 11)) dX2_finish_39 rfl hk9 (Nat.le_of_ble_eq_true rfl) rfl lf_X2_61 ?_
          refine ao_iconst (v := 1) dX2_finish_42 (by decide) ?_
          refine ao_iadd dX2_finish_43 ?_
          refine an_putI j8 5 4 (q := (RX5, TX5, 11)) dX2_finish_44 rfl hk9 (Nat.le_of_ble_eq_true rfl) lf_X2_61 rfl rfl rfl rfl (fun M10 hM10 => ?_)
          replace h := ao_letD h hM10
          refine ao_iconst (v := 0) dX2_finish_47 (by decide) ?_
          refine ao_istore_n 3 (lo' := [some (.ref (Γ.2.2.2 + r0)), some (.ref (Γ.2.2.2 + r1)), some (.ref (Γ.2.2.2 + p2.1)), some (.int (0 : Int32))]) dX2_finish_48 rfl (Nat.le_of_ble_eq_true rfl) rfl ?_
          exact ih.2.2.1 r0 r1 p2.1 (0 : Int32) M10 ρ _ h
      · replace h := ao_ifF h c5
        refine ao_aload_n 0 dX2_finish_13 rfl rfl ?_
        obtain ⟨j11, hj11, h⟩ := ao_bind h
        refine an_getR r0 2 0 (q := (RX2, TX2, 7)) dX2_finish_14 rfl hk3 (Nat.le_of_ble_eq_true rfl) rfl lf_X2_12 hj11 ?_
        refine ao_aload_n 1 dX2_finish_17 rfl rfl ?_
        refine an_getI r1 7 0 (q := (RX7, TX7, 20)) dX2_finish_18 rfl hk1 (Nat.le_of_ble_eq_true rfl) rfl lf_X2_171 ?_
        obtain ⟨hk12, h⟩ := ao_some h
        obtain ⟨p13, hp13, h⟩ := ao_bind h
        refine ba_callVv j11 5 (q := (RX5, TX5, 11)) [.int (p4.2 r1 0)] (aX5_release (d - 1) (by omega) n j11 (p4.2 r1 0) p4.2 ρ hp13) dX2_finish_21 lc_X2_283 li_X5_release ls_X5_release rfl hk12 rfl rfl (Nat.le_of_ble_eq_true rfl) (ao_hR (by omega) (by decide)) (ao_leC (me_X5_release n j11 (p4.2 r1 0) p4.2 ρ hp13) ((mX2_finish n).2.1 r0 r1 p2.1 p13.1 p13.2 _ h)) (ao_leS (me_X5_release n j11 (p4.2 r1 0) p4.2 ρ hp13) ((mX2_finish n).2.1 r0 r1 p2.1 p13.1 p13.2 _ h)) ?_
        exact ih.2.1 r0 r1 p2.1 p13.1 p13.2 _ h
    · intro r0 r1 r2 M ρ y h
      replace h := ao_ifF h (by decide)
      replace h := ao_ifT h rfl
      refine ao_goto 83 dX2_finish_24 (by decide) ?_
      exact ih.2.2.2.2.1 r0 r1 r2 M ρ _ h
    · intro r0 r1 r2 x3 M ρ y h
      replace h := ao_ifF h (by decide)
      replace h := ao_ifF h (by decide)
      replace h := ao_ifT h rfl
      refine ao_iload_n 3 dX2_finish_49 rfl rfl ?_
      refine ao_bipush (v := 26) dX2_finish_50 (by decide) ?_
      refine ao_icmp_ge 83 dX2_finish_52 (by decide) (fun c14 => ?_) (fun c14 => ?_)
      · replace h := ao_ifT h c14
        refine ao_loForget (lo' := [some (.ref (Γ.2.2.2 + r0)), some (.ref (Γ.2.2.2 + r1)), some (.ref (Γ.2.2.2 + r2)), none]) (ao_fgS (ao_fgS (ao_fgS (ao_fgN ao_fgZ)))) ?_
        exact ih.2.2.2.2.1 r0 r1 r2 M ρ _ h
      · replace h := ao_ifF h c14
        refine ao_aload_n 2 dX2_finish_55 rfl rfl ?_
        refine ao_iload_n 3 dX2_finish_56 rfl rfl ?_
        obtain ⟨hk15, h⟩ := ao_some h
        obtain ⟨p16, hp16, h⟩ := ao_bind h
        refine an_callVi r2 3 (q := (RX3, TX3, 12)) [.int x3] (aX3_wrote (d - 1) (by omega) r2 x3 M ρ hp16) dX2_finish_57 lc_X2_217 li_X3_wrote ls_X3_wrote rfl hk15 rfl rfl (Nat.le_of_ble_eq_true rfl) (ao_hR (by omega) (by decide)) ?_
        refine ao_if_eq 77 dX2_finish_60 (by decide) (fun c17 => ?_) (fun c17 => ?_)
        · replace h := ao_ifT h c17
          exact ih.2.2.2.1 r0 r1 r2 x3 p16.2 ρ _ h
        · replace h := ao_ifF h c17
          refine ao_aload_n 0 dX2_finish_63 rfl rfl ?_
          obtain ⟨hk18, h⟩ := ao_some h
          obtain ⟨j19, hj19, h⟩ := ao_bind h
          refine an_getR r0 2 0 (q := (RX2, TX2, 7)) dX2_finish_64 rfl hk18 (Nat.le_of_ble_eq_true rfl) rfl lf_X2_12 hj19 ?_
          refine ao_iload_n 3 dX2_finish_67 rfl rfl ?_
          refine ao_aload_n 2 dX2_finish_68 rfl rfl ?_
          obtain ⟨j20, hj20, h⟩ := ao_bind h
          refine an_getR r2 3 5 (q := (RX3, TX3, 12)) dX2_finish_69 rfl hk15 (Nat.le_of_ble_eq_true rfl) rfl lf_X2_221 hj20 ?_
          refine ao_iload_n 3 dX2_finish_72 rfl rfl ?_
          obtain ⟨hk21, h⟩ := ao_some h
          obtain ⟨hb22, h⟩ := ao_some h
          refine an_iaload j20 dX2_finish_73 hk21 hb22 ?_
          obtain ⟨hk23, h⟩ := ao_some h
          obtain ⟨p24, hp24, h⟩ := ao_bind h
          refine ba_callVv j19 5 (q := (RX5, TX5, 11)) [.int x3, .int (p16.2 j20 x3.toNatClampNeg)] (aX5_change (d - 1) (by omega) n j19 x3 (p16.2 j20 x3.toNatClampNeg) p16.2 ρ hp24) dX2_finish_74 lc_X2_238 li_X5_change ls_X5_change rfl hk23 rfl rfl (Nat.le_of_ble_eq_true rfl) (ao_hR (by omega) (by decide)) (ao_leC (me_X5_change n j19 x3 (p16.2 j20 x3.toNatClampNeg) p16.2 ρ hp24) ((mX2_finish n).2.2.2.1 r0 r1 r2 x3 p24.1 p24.2 _ h)) (ao_leS (me_X5_change n j19 x3 (p16.2 j20 x3.toNatClampNeg) p16.2 ρ hp24) ((mX2_finish n).2.2.2.1 r0 r1 r2 x3 p24.1 p24.2 _ h)) ?_
          exact ih.2.2.2.1 r0 r1 r2 x3 p24.1 p24.2 _ h
    · intro r0 r1 r2 x3 M ρ y h
      replace h := ao_ifF h (by decide)
      replace h := ao_ifF h (by decide)
      replace h := ao_ifF h (by decide)
      replace h := ao_ifT h rfl
      obtain ⟨v25, hv25⟩ : ∃ z : Int32, z = x3 + (1 : Int32) := ⟨_, rfl⟩
      replace h := ao_letD h hv25
      refine ao_iinc 3 (v := v25) (lo' := [some (.ref (Γ.2.2.2 + r0)), some (.ref (Γ.2.2.2 + r1)), some (.ref (Γ.2.2.2 + r2)), some (.int v25)]) dX2_finish_77 rfl (by rw [hv25]; rfl) (Nat.le_of_ble_eq_true rfl) rfl ?_
      refine ao_goto 49 dX2_finish_80 (by decide) ?_
      exact ih.2.2.1 r0 r1 r2 v25 M ρ _ h
    · intro r0 r1 r2 M ρ y h
      replace h := ao_ifF h (by decide)
      replace h := ao_ifF h (by decide)
      replace h := ao_ifF h (by decide)
      replace h := ao_ifF h (by decide)
      replace h := ao_ifT h rfl
      refine ao_aload_n 0 dX2_finish_83 rfl rfl ?_
      refine ao_aload_n 1 dX2_finish_84 rfl rfl ?_
      refine ao_aload_n 2 dX2_finish_85 rfl rfl ?_
      obtain ⟨hk26, h⟩ := ao_some h
      obtain ⟨p27, hp27, h⟩ := ao_bind h
      refine an_callVv r0 2 (q := (RX2, TX2, 7)) [.ref (Γ.2.2.2 + r1), .ref (Γ.2.2.2 + r2)] (aX2_writeRecord (d - 1) (by omega) _ r0 r1 r2 M ρ hp27) dX2_finish_86 lc_X2_336 li_X2_writeRecord ls_X2_writeRecord rfl hk26 rfl rfl (Nat.le_of_ble_eq_true rfl) (ao_hR (by omega) (by decide)) ?_
      refine ao_iconst (v := 0) dX2_finish_89 (by decide) ?_
      refine ao_istore_n 3 (lo' := [some (.ref (Γ.2.2.2 + r0)), some (.ref (Γ.2.2.2 + r1)), some (.ref (Γ.2.2.2 + r2)), some (.int (0 : Int32))]) dX2_finish_90 rfl (Nat.le_of_ble_eq_true rfl) rfl ?_
      exact ih.2.2.2.2.2.1 r0 r1 r2 (0 : Int32) p27 ρ _ h
    · intro r0 r1 r2 x3 M ρ y h
      replace h := ao_ifF h (by decide)
      replace h := ao_ifF h (by decide)
      replace h := ao_ifF h (by decide)
      replace h := ao_ifF h (by decide)
      replace h := ao_ifF h (by decide)
      replace h := ao_ifT h rfl
      refine ao_iload_n 3 dX2_finish_91 rfl rfl ?_
      refine ao_aload_n 1 dX2_finish_92 rfl rfl ?_
      obtain ⟨hk28, h⟩ := ao_some h
      refine an_getI r1 7 13 (q := (RX7, TX7, 20)) dX2_finish_93 rfl hk28 (Nat.le_of_ble_eq_true rfl) rfl lf_X2_320 ?_
      refine ao_icmp_ge 129 dX2_finish_96 (by decide) (fun c29 => ?_) (fun c29 => ?_)
      · replace h := ao_ifT h c29
        exact ih.2.2.2.2.2.2 r0 r1 r2 x3 M ρ _ h
      · replace h := ao_ifF h c29
        refine ao_iload_n 3 dX2_finish_99 rfl rfl ?_
        refine ao_sipush (v := 200) dX2_finish_100 (by decide) ?_
        refine ao_icmp_ge 129 dX2_finish_103 (by decide) (fun c30 => ?_) (fun c30 => ?_)
        · replace h := ao_ifT h c30
          exact ih.2.2.2.2.2.2 r0 r1 r2 x3 M ρ _ h
        · replace h := ao_ifF h c30
          refine ao_aload_n 0 dX2_finish_106 rfl rfl ?_
          obtain ⟨hk31, h⟩ := ao_some h
          obtain ⟨j32, hj32, h⟩ := ao_bind h
          refine an_getR r0 2 2 (q := (RX2, TX2, 7)) dX2_finish_107 rfl hk31 (Nat.le_of_ble_eq_true rfl) rfl lf_X2_21 hj32 ?_
          refine ao_aload_n 1 dX2_finish_110 rfl rfl ?_
          refine an_getI r1 7 0 (q := (RX7, TX7, 20)) dX2_finish_111 rfl hk28 (Nat.le_of_ble_eq_true rfl) rfl lf_X2_171 ?_
          refine ao_aload_n 1 dX2_finish_114 rfl rfl ?_
          obtain ⟨j33, hj33, h⟩ := ao_bind h
          refine an_getR r1 7 12 (q := (RX7, TX7, 20)) dX2_finish_115 rfl hk28 (Nat.le_of_ble_eq_true rfl) rfl lf_X2_340 hj33 ?_
          refine ao_iload_n 3 dX2_finish_118 rfl rfl ?_
          obtain ⟨hk34, h⟩ := ao_some h
          obtain ⟨hb35, h⟩ := ao_some h
          refine an_iaload j33 dX2_finish_119 hk34 hb35 ?_
          obtain ⟨hk36, h⟩ := ao_some h
          obtain ⟨p37, hp37, h⟩ := ao_bind h
          refine an_callVv j32 8 (q := (RX8, TX8, 3)) [.int (M r1 0), .int (M j33 x3.toNatClampNeg)] (aX8_add (d - 1) (by omega) j32 (M r1 0) (M j33 x3.toNatClampNeg) M ρ hp37) dX2_finish_120 lc_X2_174 li_X8_add ls_X8_add rfl hk36 rfl rfl (Nat.le_of_ble_eq_true rfl) (ao_hR (by omega) (by decide)) ?_
          obtain ⟨v38, hv38⟩ : ∃ z : Int32, z = x3 + (1 : Int32) := ⟨_, rfl⟩
          replace h := ao_letD h hv38
          refine ao_iinc 3 (v := v38) (lo' := [some (.ref (Γ.2.2.2 + r0)), some (.ref (Γ.2.2.2 + r1)), some (.ref (Γ.2.2.2 + r2)), some (.int v38)]) dX2_finish_123 rfl (by rw [hv38]; rfl) (Nat.le_of_ble_eq_true rfl) rfl ?_
          refine ao_goto 91 dX2_finish_126 (by decide) ?_
          exact ih.2.2.2.2.2.1 r0 r1 r2 v38 p37 ρ _ h
    · intro r0 r1 r2 x3 M ρ y h
      replace h := ao_ifF h (by decide)
      replace h := ao_ifF h (by decide)
      replace h := ao_ifF h (by decide)
      replace h := ao_ifF h (by decide)
      replace h := ao_ifF h (by decide)
      replace h := ao_ifF h (by decide)
      replace h := ao_ifT h rfl
      refine ao_aload_n 1 dX2_finish_129 rfl rfl ?_
      refine ao_iconst (v := 0) dX2_finish_130 (by decide) ?_
      obtain ⟨hk39, h⟩ := ao_some h
      refine an_putI r1 7 13 (q := (RX7, TX7, 20)) dX2_finish_131 rfl hk39 (Nat.le_of_ble_eq_true rfl) lf_X2_320 rfl rfl rfl rfl (fun M40 hM40 => ?_)
      replace h := ao_letD h hM40
      refine ao_aload_n 1 dX2_finish_134 rfl rfl ?_
      refine ao_dup dX2_finish_135 rfl ?_
      refine an_getI r1 7 18 (q := (RX7, TX7, 20)) dX2_finish_136 rfl hk39 (Nat.le_of_ble_eq_true rfl) rfl lf_X2_343 ?_
      refine ao_iconst (v := 1) dX2_finish_139 (by decide) ?_
      refine ao_iadd dX2_finish_140 ?_
      refine an_putI r1 7 18 (q := (RX7, TX7, 20)) dX2_finish_141 rfl hk39 (Nat.le_of_ble_eq_true rfl) lf_X2_343 rfl rfl rfl rfl (fun M41 hM41 => ?_)
      replace h := ao_letD h hM41
      refine ao_aload_n 1 dX2_finish_144 rfl rfl ?_
      refine ao_iconst (v := 0) dX2_finish_145 (by decide) ?_
      refine an_putI r1 7 8 (q := (RX7, TX7, 20)) dX2_finish_146 rfl hk39 (Nat.le_of_ble_eq_true rfl) lf_X2_165 rfl rfl rfl rfl (fun M42 hM42 => ?_)
      replace h := ao_letD h hM42
      refine ao_aload_n 1 dX2_finish_149 rfl rfl ?_
      refine ao_iconst (v := 1) dX2_finish_150 (by decide) ?_
      refine an_putI r1 7 2 (q := (RX7, TX7, 20)) dX2_finish_151 rfl hk39 (Nat.le_of_ble_eq_true rfl) lf_X2_55 rfl rfl rfl rfl (fun M43 hM43 => ?_)
      replace h := ao_letD h hM43
      cases h
      exact ao_return dX2_finish_154 rfl ⟨rfl, rfl⟩
theorem me_X2_finish (n : Nat) (r0 : Nat) (r1 : Nat) (M : ao_M) (ρ : ao_H) {y : ao_S} (h : gX2_finish n r0 r1 M ρ = some y) : ao_le ρ y.2 := (mX2_finish n).1 r0 r1 M ρ y h
set_option maxRecDepth 100000 in
set_option maxHeartbeats 4000000 in
theorem aX2_finish {Γ : ao_C} (d : Nat) (hd : 4 ≤ d) (n : Nat) (r0 : Nat) (r1 : Nat) (M : ao_M) (ρ : ao_H) {y : ao_S} (h : gX2_finish n r0 r1 M ρ = some y) : ao_A Γ uX2_finish d (ao_dc ρ y.2) (ao_ds ρ y.2) [.ref (Γ.2.2.2 + r0), .ref (Γ.2.2.2 + r1)] (M, ρ) (ao_QV y) := by
  refine ao_of (by decide) (ao_cat1 (Nat.le_of_ble_eq_true rfl)) (Nat.le_of_ble_eq_true rfl) ?_
  show ao_W Γ uX2_finish (ao_rm d (ao_dc ρ y.2) (ao_ds ρ y.2)) (ao_Q Γ (ao_QV y) (ao_dc ρ y.2) (ao_ds ρ y.2)) (ao_dc ρ y.2) (ao_ds ρ y.2) 0 [some (.ref (Γ.2.2.2 + r0)), some (.ref (Γ.2.2.2 + r1)), none, none] [] (M, ρ)
  exact (wX2_finish d hd _ _ n).1 r0 r1 M ρ y h

abbrev uX2_retry : ao_Mi := (yX2_retry, cX2_retry, 4, (some .int), [])
def fX2_retry : Nat → Nat → Nat → Nat → Int32 → Int32 → Nat →  ao_M → ao_H → Option (Int32 × ao_S)
  | 0, _, _, _, _, _, _, _, _ => none
  | n + 1, pc, r0, r1, x2, s0, q1, M, ρ =>
    if pc = 0 then
      if ρ.2.1 r1 = 17 then
      (gX7_levelWithOr n r1 M ρ).bind fun p2 =>
      ao_let p2.1 fun v3 =>
      if 0 ≤ v3 then
        if v3 ≤ 0 then
          fX2_retry n 27 r0 r1 v3 (0 : Int32) r1 p2.2 ρ
        else
          fX2_retry n 27 r0 r1 v3 (v3 - (1 : Int32)) r1 p2.2 ρ
      else
        if ρ.2.1 r0 = 12 then
        (gX2_fallAsleep n r0 r1 p2.2 ρ).bind fun p7 =>
        fX2_retry n 14 r0 r1 v3 p7.1 0 p7.2.1 p7.2.2
        else none
      else none
    else if pc = 14 then
      some (s0, M, ρ)
    else if pc = 27 then
      (gX2_foldReads n q1 s0 M ρ).bind fun p8 =>
      if ρ.2.1 r0 = 12 then
      (gX2_takeBack n r0 r1 x2 p8 ρ).bind fun p10 =>
      if ρ.2.1 r1 = 17 then
      ao_let (ao_u p10 r1 8 (x2 + (1 : Int32))) fun M12 =>
      (gX7_level n r1 x2 M12 ρ).bind fun p13 =>
      if ρ.2.1 p13.1 = 13 then
      ao_let (ao_u p13.2 p13.1 9 (1 : Int32)) fun M15 =>
      (ρ.1 r1 1).bind fun j16 =>
      if ρ.2.1 j16 = 11 then
      (gX1_firstAt j16 (M15 p13.1 8) M15 ρ).bind fun p18 =>
      ao_let (ao_u p18.2 r1 3 p18.1) fun M19 =>
      some ((0 : Int32), M19, ρ)
      else none
      else none
      else none
      else none
    else none
def gX2_retry (n : Nat) (r0 : Nat) (r1 : Nat) (M : ao_M) (ρ : ao_H) : Option (Int32 × ao_S) := fX2_retry n 0 r0 r1 0 0 0 M ρ
set_option maxRecDepth 100000 in
set_option maxHeartbeats 4000000 in
theorem mX2_retry : ∀ n : Nat, (∀ (r0 : Nat) (r1 : Nat) (M : ao_M) (ρ : ao_H) (y : Int32 × ao_S), fX2_retry n 0 r0 r1 0 0 0 M ρ = some y → ao_le ρ y.2.2) ∧ (∀ (r0 : Nat) (r1 : Nat) (x2 : Int32) (s0 : Int32) (M : ao_M) (ρ : ao_H) (y : Int32 × ao_S), fX2_retry n 14 r0 r1 x2 s0 0 M ρ = some y → ao_le ρ y.2.2) ∧ (∀ (r0 : Nat) (r1 : Nat) (x2 : Int32) (s0 : Int32) (q1 : Nat) (M : ao_M) (ρ : ao_H) (y : Int32 × ao_S), fX2_retry n 27 r0 r1 x2 s0 q1 M ρ = some y → ao_le ρ y.2.2) := by
  intro n
  induction n with
  | zero => exact ⟨fun _ _ _ _ _ h => ao_no h, fun _ _ _ _ _ _ _ h => ao_no h, fun _ _ _ _ _ _ _ _ h => ao_no h⟩
  | succ n ih =>
    refine ⟨?_, ?_, ?_⟩
    · intro r0 r1 M ρ y h
      replace h := ao_ifT h rfl
      obtain ⟨-, h⟩ := ao_some h
      obtain ⟨p2, hp2, h⟩ := ao_bind h
      replace h := ao_letD h rfl
      generalize p2.1 = v3 at h
      rcases ao_ifC h with h | h
      · rcases ao_ifC h with h | h
        · exact ih.2.2 r0 r1 v3 (0 : Int32) r1 p2.2 ρ _ h
        · exact ih.2.2 r0 r1 v3 (v3 - (1 : Int32)) r1 p2.2 ρ _ h
      · obtain ⟨-, h⟩ := ao_some h
        obtain ⟨p7, hp7, h⟩ := ao_bind h
        exact ao_le_tr (me_X2_fallAsleep n r0 r1 p2.2 ρ hp7) (ih.2.1 r0 r1 v3 p7.1 p7.2.1 p7.2.2 _ h)
    · intro r0 r1 x2 s0 M ρ y h
      replace h := ao_ifF h (by decide)
      replace h := ao_ifT h rfl
      cases h
      exact ao_le_rf _
    · intro r0 r1 x2 s0 q1 M ρ y h
      replace h := ao_ifF h (by decide)
      replace h := ao_ifF h (by decide)
      replace h := ao_ifT h rfl
      obtain ⟨p8, hp8, h⟩ := ao_bind h
      obtain ⟨-, h⟩ := ao_some h
      obtain ⟨p10, hp10, h⟩ := ao_bind h
      obtain ⟨-, h⟩ := ao_some h
      replace h := ao_letD h rfl
      generalize (ao_u p10 r1 8 (x2 + (1 : Int32))) = M12 at h
      obtain ⟨p13, hp13, h⟩ := ao_bind h
      obtain ⟨-, h⟩ := ao_some h
      replace h := ao_letD h rfl
      generalize (ao_u p13.2 p13.1 9 (1 : Int32)) = M15 at h
      obtain ⟨j16, hj16, h⟩ := ao_bind h
      obtain ⟨-, h⟩ := ao_some h
      obtain ⟨p18, hp18, h⟩ := ao_bind h
      replace h := ao_letD h rfl
      generalize (ao_u p18.2 r1 3 p18.1) = M19 at h
      cases h
      exact ao_le_rf _
set_option maxRecDepth 100000 in
set_option maxHeartbeats 4000000 in
theorem wX2_retry {Γ : ao_C} (d : Nat) (hd : 5 ≤ d) (MC MS : Nat) : ∀ n : Nat, (∀ (r0 : Nat) (r1 : Nat) (M : ao_M) (ρ : ao_H) (y : Int32 × ao_S), fX2_retry n 0 r0 r1 0 0 0 M ρ = some y → ao_W Γ uX2_retry (ao_rm d MC MS) (ao_Q Γ (ao_QI y) MC MS) (ao_dc ρ y.2.2) (ao_ds ρ y.2.2) 0 [some (.ref (Γ.2.2.2 + r0)), some (.ref (Γ.2.2.2 + r1)), none, none] [] (M, ρ)) ∧ (∀ (r0 : Nat) (r1 : Nat) (x2 : Int32) (s0 : Int32) (M : ao_M) (ρ : ao_H) (y : Int32 × ao_S), fX2_retry n 14 r0 r1 x2 s0 0 M ρ = some y → ao_W Γ uX2_retry (ao_rm d MC MS) (ao_Q Γ (ao_QI y) MC MS) (ao_dc ρ y.2.2) (ao_ds ρ y.2.2) 14 [some (.ref (Γ.2.2.2 + r0)), some (.ref (Γ.2.2.2 + r1)), some (.int x2), none] [.int s0] (M, ρ)) ∧ (∀ (r0 : Nat) (r1 : Nat) (x2 : Int32) (s0 : Int32) (q1 : Nat) (M : ao_M) (ρ : ao_H) (y : Int32 × ao_S), fX2_retry n 27 r0 r1 x2 s0 q1 M ρ = some y → ao_W Γ uX2_retry (ao_rm d MC MS) (ao_Q Γ (ao_QI y) MC MS) (ao_dc ρ y.2.2) (ao_ds ρ y.2.2) 27 [some (.ref (Γ.2.2.2 + r0)), some (.ref (Γ.2.2.2 + r1)), some (.int x2), none] [.int s0, .ref (Γ.2.2.2 + q1)] (M, ρ)) := by
  intro n
  induction n with
  | zero => exact ⟨fun _ _ _ _ _ h => ao_no h, fun _ _ _ _ _ _ _ h => ao_no h, fun _ _ _ _ _ _ _ _ h => ao_no h⟩
  | succ n ih =>
    refine ⟨?_, ?_, ?_⟩
    · intro r0 r1 M ρ y h
      replace h := ao_ifT h rfl
      refine ao_aload_n 1 dX2_retry_0 rfl rfl ?_
      obtain ⟨hk1, h⟩ := ao_some h
      obtain ⟨p2, hp2, h⟩ := ao_bind h
      refine an_callVi r1 7 (q := (RX7, TX7, 20)) [] (aX7_levelWithOr (d - 1) (by omega) _ r1 M ρ hp2) dX2_retry_1 lc_X2_346 li_X7_levelWithOr ls_X7_levelWithOr rfl hk1 rfl rfl (Nat.le_of_ble_eq_true rfl) (ao_hR (by omega) (by decide)) ?_
      refine an_topi (fun v3 hv3 => ?_)
      replace h := ao_letD h hv3
      refine ao_istore_n 2 (lo' := [some (.ref (Γ.2.2.2 + r0)), some (.ref (Γ.2.2.2 + r1)), some (.int v3), none]) dX2_retry_4 rfl (Nat.le_of_ble_eq_true rfl) rfl ?_
      refine ao_iload_n 2 dX2_retry_5 rfl rfl ?_
      refine ao_if_ge 15 dX2_retry_6 (by decide) (fun c4 => ?_) (fun c4 => ?_)
      · replace h := ao_ifT h c4
        refine ao_aload_n 1 dX2_retry_15 rfl rfl ?_
        refine ao_iload_n 2 dX2_retry_16 rfl rfl ?_
        refine ao_if_le 26 dX2_retry_17 (by decide) (fun c5 => ?_) (fun c5 => ?_)
        · replace h := ao_ifT h c5
          refine ao_iconst (v := 0) dX2_retry_26 (by decide) ?_
          exact ih.2.2 r0 r1 v3 (0 : Int32) r1 p2.2 ρ _ h
        · replace h := ao_ifF h c5
          refine ao_iload_n 2 dX2_retry_20 rfl rfl ?_
          refine ao_iconst (v := 1) dX2_retry_21 (by decide) ?_
          refine ao_isub dX2_retry_22 ?_
          refine ao_goto 27 dX2_retry_23 (by decide) ?_
          exact ih.2.2 r0 r1 v3 (v3 - (1 : Int32)) r1 p2.2 ρ _ h
      · replace h := ao_ifF h c4
        refine ao_aload_n 0 dX2_retry_9 rfl rfl ?_
        refine ao_aload_n 1 dX2_retry_10 rfl rfl ?_
        obtain ⟨hk6, h⟩ := ao_some h
        obtain ⟨p7, hp7, h⟩ := ao_bind h
        refine ba_callVi r0 2 (q := (RX2, TX2, 7)) [.ref (Γ.2.2.2 + r1)] (aX2_fallAsleep (d - 1) (by omega) n r0 r1 p2.2 ρ hp7) dX2_retry_11 lc_X2_349 li_X2_fallAsleep ls_X2_fallAsleep rfl hk6 rfl rfl (Nat.le_of_ble_eq_true rfl) (ao_hR (by omega) (by decide)) (ao_leC (me_X2_fallAsleep n r0 r1 p2.2 ρ hp7) ((mX2_retry n).2.1 r0 r1 v3 p7.1 p7.2.1 p7.2.2 _ h)) (ao_leS (me_X2_fallAsleep n r0 r1 p2.2 ρ hp7) ((mX2_retry n).2.1 r0 r1 v3 p7.1 p7.2.1 p7.2.2 _ h)) ?_
        exact ih.2.1 r0 r1 v3 p7.1 p7.2.1 p7.2.2 _ h
    · intro r0 r1 x2 s0 M ρ y h
      replace h := ao_ifF h (by decide)
      replace h := ao_ifT h rfl
      cases h
      exact ao_ireturn dX2_retry_14 rfl rfl ⟨rfl, rfl⟩
    · intro r0 r1 x2 s0 q1 M ρ y h
      replace h := ao_ifF h (by decide)
      replace h := ao_ifF h (by decide)
      replace h := ao_ifT h rfl
      obtain ⟨p8, hp8, h⟩ := ao_bind h
      refine an_callSv [.ref (Γ.2.2.2 + q1), .int s0] (aX2_foldReads (d - 1) (by omega) _ q1 s0 M ρ hp8) dX2_retry_27 lc_X2_310 lt_X2_foldReads rfl rfl (Nat.le_of_ble_eq_true rfl) (ao_hR (by omega) (by decide)) ?_
      refine ao_aload_n 0 dX2_retry_30 rfl rfl ?_
      refine ao_aload_n 1 dX2_retry_31 rfl rfl ?_
      refine ao_iload_n 2 dX2_retry_32 rfl rfl ?_
      obtain ⟨hk9, h⟩ := ao_some h
      obtain ⟨p10, hp10, h⟩ := ao_bind h
      refine an_callVv r0 2 (q := (RX2, TX2, 7)) [.ref (Γ.2.2.2 + r1), .int x2] (aX2_takeBack (d - 1) (by omega) _ r0 r1 x2 p8 ρ hp10) dX2_retry_33 lc_X2_273 li_X2_takeBack ls_X2_takeBack rfl hk9 rfl rfl (Nat.le_of_ble_eq_true rfl) (ao_hR (by omega) (by decide)) ?_
      refine ao_aload_n 1 dX2_retry_36 rfl rfl ?_
      refine ao_iload_n 2 dX2_retry_37 rfl rfl ?_
      refine ao_iconst (v := 1) dX2_retry_38 (by decide) ?_
      refine ao_iadd dX2_retry_39 ?_
      obtain ⟨hk11, h⟩ := ao_some h
      refine an_putI r1 7 8 (q := (RX7, TX7, 20)) dX2_retry_40 rfl hk11 (Nat.le_of_ble_eq_true rfl) lf_X2_165 rfl rfl rfl rfl (fun M12 hM12 => ?_)
      replace h := ao_letD h hM12
      refine ao_aload_n 1 dX2_retry_43 rfl rfl ?_
      refine ao_iload_n 2 dX2_retry_44 rfl rfl ?_
      obtain ⟨p13, hp13, h⟩ := ao_bind h
      refine an_callVr r1 7 (q := (RX7, TX7, 20)) [.int x2] (aX7_level (d - 1) (by omega) _ r1 x2 M12 ρ hp13) dX2_retry_45 lc_X2_213 li_X7_level ls_X7_level rfl hk11 rfl rfl (Nat.le_of_ble_eq_true rfl) (ao_hR (by omega) (by decide)) ?_
      refine ao_astore_n 3 (lo' := [some (.ref (Γ.2.2.2 + r0)), some (.ref (Γ.2.2.2 + r1)), some (.int x2), some (.ref (Γ.2.2.2 + p13.1))]) dX2_retry_48 rfl (Nat.le_of_ble_eq_true rfl) rfl ?_
      refine ao_aload_n 3 dX2_retry_49 rfl rfl ?_
      refine ao_iconst (v := 1) dX2_retry_50 (by decide) ?_
      obtain ⟨hk14, h⟩ := ao_some h
      refine an_putI p13.1 3 9 (q := (RX3, TX3, 12)) dX2_retry_51 rfl hk14 (Nat.le_of_ble_eq_true rfl) lf_X2_279 rfl rfl rfl rfl (fun M15 hM15 => ?_)
      replace h := ao_letD h hM15
      refine ao_aload_n 1 dX2_retry_54 rfl rfl ?_
      refine ao_aload_n 1 dX2_retry_55 rfl rfl ?_
      obtain ⟨j16, hj16, h⟩ := ao_bind h
      refine an_getR r1 7 1 (q := (RX7, TX7, 20)) dX2_retry_56 rfl hk11 (Nat.le_of_ble_eq_true rfl) rfl lf_X2_88 hj16 ?_
      refine ao_aload_n 3 dX2_retry_59 rfl rfl ?_
      refine an_getI p13.1 3 8 (q := (RX3, TX3, 12)) dX2_retry_60 rfl hk14 (Nat.le_of_ble_eq_true rfl) rfl lf_X2_292 ?_
      obtain ⟨hk17, h⟩ := ao_some h
      obtain ⟨p18, hp18, h⟩ := ao_bind h
      refine an_callVi j16 1 (q := (RX1, TX1, 6)) [.int (M15 p13.1 8)] (aX1_firstAt (d - 1) (by omega) j16 (M15 p13.1 8) M15 ρ hp18) dX2_retry_63 lc_X2_352 li_X1_firstAt ls_X1_firstAt rfl hk17 rfl rfl (Nat.le_of_ble_eq_true rfl) (ao_hR (by omega) (by decide)) ?_
      refine an_putI r1 7 3 (q := (RX7, TX7, 20)) dX2_retry_66 rfl hk11 (Nat.le_of_ble_eq_true rfl) lf_X2_92 rfl rfl rfl rfl (fun M19 hM19 => ?_)
      replace h := ao_letD h hM19
      refine ao_iconst (v := 0) dX2_retry_69 (by decide) ?_
      cases h
      exact ao_ireturn dX2_retry_70 rfl rfl ⟨rfl, rfl⟩
theorem me_X2_retry (n : Nat) (r0 : Nat) (r1 : Nat) (M : ao_M) (ρ : ao_H) {y : Int32 × ao_S} (h : gX2_retry n r0 r1 M ρ = some y) : ao_le ρ y.2.2 := (mX2_retry n).1 r0 r1 M ρ y h
set_option maxRecDepth 100000 in
set_option maxHeartbeats 4000000 in
theorem aX2_retry {Γ : ao_C} (d : Nat) (hd : 5 ≤ d) (n : Nat) (r0 : Nat) (r1 : Nat) (M : ao_M) (ρ : ao_H) {y : Int32 × ao_S} (h : gX2_retry n r0 r1 M ρ = some y) : ao_A Γ uX2_retry d (ao_dc ρ y.2.2) (ao_ds ρ y.2.2) [.ref (Γ.2.2.2 + r0), .ref (Γ.2.2.2 + r1)] (M, ρ) (ao_QI y) := by
  refine ao_of (by decide) (ao_cat1 (Nat.le_of_ble_eq_true rfl)) (Nat.le_of_ble_eq_true rfl) ?_
  show ao_W Γ uX2_retry (ao_rm d (ao_dc ρ y.2.2) (ao_ds ρ y.2.2)) (ao_Q Γ (ao_QI y) (ao_dc ρ y.2.2) (ao_ds ρ y.2.2)) (ao_dc ρ y.2.2) (ao_ds ρ y.2.2) 0 [some (.ref (Γ.2.2.2 + r0)), some (.ref (Γ.2.2.2 + r1)), none, none] [] (M, ρ)
  exact (wX2_retry d hd _ _ n).1 r0 r1 M ρ y h

abbrev uX9_scan : ao_Mi := (yX9_scan, cX9_scan, 2, none, [])
def fX9_scan : Nat → Nat → Nat →  ao_M → ao_H → Option (ao_M)
  | 0, _, _, _, _ => none
  | n + 1, pc, r0, M, ρ =>
    if pc = 0 then
      if ρ.2.1 r0 = 19 then
      if (M r0 1) ≤ (M r0 2) then
        fX9_scan n 38 r0 M ρ
      else
        (gX9_byteAt r0 (M r0 2) M ρ).bind fun p3 =>
        (gX9_isBlank n p3.1 p3.2 ρ).bind fun p4 =>
        if p4.1 = 0 then
          fX9_scan n 38 r0 p4.2 ρ
        else
          ao_let (ao_u p4.2 r0 2 ((p4.2 r0 2) + (1 : Int32))) fun M6 =>
          fX9_scan n 0 r0 M6 ρ
      else none
    else if pc = 38 then
      if ρ.2.1 r0 = 19 then
      ao_let (ao_u M r0 9 (M r0 2)) fun M8 =>
      ao_let (ao_u M8 r0 10 (0 : Int32)) fun M9 =>
      (gX9_byteAt r0 (M9 r0 2) M9 ρ).bind fun p10 =>
      ao_let p10.1 fun v11 =>
      if (p10.2 r0 2) < (p10.2 r0 1) then
        (gX9_isLetter n v11 p10.2 ρ).bind fun p13 =>
        if p13.1 = 0 then
          (gX9_isDigit v11 p13.2 ρ).bind fun p15 =>
          if p15.1 = 0 then
            (gX9_signKind r0 v11 p15.2 ρ).bind fun p17 =>
            ao_let (ao_u p17.2 r0 8 p17.1) fun M18 =>
            some M18
          else
            (gX9_numberKind n r0 p15.2 ρ).bind fun p19 =>
            ao_let (ao_u p19.2 r0 8 p19.1) fun M20 =>
            some M20
        else
          (gX9_wordKind n r0 p13.2 ρ).bind fun p21 =>
          ao_let (ao_u p21.2 r0 8 p21.1) fun M22 =>
          some M22
      else
        ao_let (ao_u p10.2 r0 8 (0 : Int32)) fun M23 =>
        some M23
      else none
    else none
def gX9_scan (n : Nat) (r0 : Nat) (M : ao_M) (ρ : ao_H) : Option (ao_M) := fX9_scan n 0 r0 M ρ
set_option maxRecDepth 100000 in
set_option maxHeartbeats 4000000 in
theorem wX9_scan {Γ : ao_C} {ρ : ao_H} (d : Nat) (hd : 7 ≤ d) : ∀ n : Nat, (∀ (r0 : Nat) (M : ao_M) (y : ao_M), fX9_scan n 0 r0 M ρ = some y → ao_W Γ uX9_scan (ao_rm d 0 0) (ao_Q Γ (ao_PV ρ y) 0 0) 0 0 0 [some (.ref (Γ.2.2.2 + r0)), none] [] (M, ρ)) ∧ (∀ (r0 : Nat) (M : ao_M) (y : ao_M), fX9_scan n 38 r0 M ρ = some y → ao_W Γ uX9_scan (ao_rm d 0 0) (ao_Q Γ (ao_PV ρ y) 0 0) 0 0 38 [some (.ref (Γ.2.2.2 + r0)), none] [] (M, ρ)) := by
  intro n
  induction n with
  | zero => exact ⟨fun _ _ _ h => ao_no h, fun _ _ _ h => ao_no h⟩
  | succ n ih =>
    refine ⟨?_, ?_⟩
    · intro r0 M y h
      replace h := ao_ifT h rfl
      refine ao_aload_n 0 dX9_scan_0 rfl rfl ?_
      obtain ⟨hk1, h⟩ := ao_some h
      refine an_getI r0 9 2 (q := (RX9, TX9, 11)) dX9_scan_1 rfl hk1 (Nat.le_of_ble_eq_true rfl) rfl lf_X9_29 ?_
      refine ao_aload_n 0 dX9_scan_4 rfl rfl ?_
      refine an_getI r0 9 1 (q := (RX9, TX9, 11)) dX9_scan_5 rfl hk1 (Nat.le_of_ble_eq_true rfl) rfl lf_X9_25 ?_
      refine ao_icmp_ge 38 dX9_scan_8 (by decide) (fun c2 => ?_) (fun c2 => ?_)
      · replace h := ao_ifT h c2
        exact ih.2 r0 M _ h
      · replace h := ao_ifF h c2
        refine ao_aload_n 0 dX9_scan_11 rfl rfl ?_
        refine ao_aload_n 0 dX9_scan_12 rfl rfl ?_
        refine an_getI r0 9 2 (q := (RX9, TX9, 11)) dX9_scan_13 rfl hk1 (Nat.le_of_ble_eq_true rfl) rfl lf_X9_29 ?_
        obtain ⟨p3, hp3, h⟩ := ao_bind h
        refine an_callVi r0 9 (q := (RX9, TX9, 11)) [.int (M r0 2)] (aX9_byteAt (d - 1) (by omega) r0 (M r0 2) M ρ hp3) dX9_scan_16 lc_X9_53 li_X9_byteAt ls_X9_byteAt rfl hk1 rfl rfl (Nat.le_of_ble_eq_true rfl) (ao_hR (by omega) (by decide)) ?_
        obtain ⟨p4, hp4, h⟩ := ao_bind h
        refine an_callSi [.int p3.1] (aX9_isBlank (d - 1) (by omega) _ p3.1 p3.2 ρ hp4) dX9_scan_19 lc_X9_57 lt_X9_isBlank rfl rfl (Nat.le_of_ble_eq_true rfl) (ao_hR (by omega) (by decide)) ?_
        refine ao_if_eq 38 dX9_scan_22 (by decide) (fun c5 => ?_) (fun c5 => ?_)
        · replace h := ao_ifT h c5
          exact ih.2 r0 p4.2 _ h
        · replace h := ao_ifF h c5
          refine ao_aload_n 0 dX9_scan_25 rfl rfl ?_
          refine ao_dup dX9_scan_26 rfl ?_
          refine an_getI r0 9 2 (q := (RX9, TX9, 11)) dX9_scan_27 rfl hk1 (Nat.le_of_ble_eq_true rfl) rfl lf_X9_29 ?_
          refine ao_iconst (v := 1) dX9_scan_30 (by decide) ?_
          refine ao_iadd dX9_scan_31 ?_
          refine an_putI r0 9 2 (q := (RX9, TX9, 11)) dX9_scan_32 rfl hk1 (Nat.le_of_ble_eq_true rfl) lf_X9_29 rfl rfl rfl rfl (fun M6 hM6 => ?_)
          replace h := ao_letD h hM6
          refine ao_goto 0 dX9_scan_35 (by decide) ?_
          exact ih.1 r0 M6 _ h
    · intro r0 M y h
      replace h := ao_ifF h (by decide)
      replace h := ao_ifT h rfl
      refine ao_aload_n 0 dX9_scan_38 rfl rfl ?_
      refine ao_aload_n 0 dX9_scan_39 rfl rfl ?_
      obtain ⟨hk7, h⟩ := ao_some h
      refine an_getI r0 9 2 (q := (RX9, TX9, 11)) dX9_scan_40 rfl hk7 (Nat.le_of_ble_eq_true rfl) rfl lf_X9_29 ?_
      refine an_putI r0 9 9 (q := (RX9, TX9, 11)) dX9_scan_43 rfl hk7 (Nat.le_of_ble_eq_true rfl) lf_X9_41 rfl rfl rfl rfl (fun M8 hM8 => ?_)
      replace h := ao_letD h hM8
      refine ao_aload_n 0 dX9_scan_46 rfl rfl ?_
      refine ao_iconst (v := 0) dX9_scan_47 (by decide) ?_
      refine an_putI r0 9 10 (q := (RX9, TX9, 11)) dX9_scan_48 rfl hk7 (Nat.le_of_ble_eq_true rfl) lf_X9_44 rfl rfl rfl rfl (fun M9 hM9 => ?_)
      replace h := ao_letD h hM9
      refine ao_aload_n 0 dX9_scan_51 rfl rfl ?_
      refine ao_aload_n 0 dX9_scan_52 rfl rfl ?_
      refine an_getI r0 9 2 (q := (RX9, TX9, 11)) dX9_scan_53 rfl hk7 (Nat.le_of_ble_eq_true rfl) rfl lf_X9_29 ?_
      obtain ⟨p10, hp10, h⟩ := ao_bind h
      refine an_callVi r0 9 (q := (RX9, TX9, 11)) [.int (M9 r0 2)] (aX9_byteAt (d - 1) (by omega) r0 (M9 r0 2) M9 ρ hp10) dX9_scan_56 lc_X9_53 li_X9_byteAt ls_X9_byteAt rfl hk7 rfl rfl (Nat.le_of_ble_eq_true rfl) (ao_hR (by omega) (by decide)) ?_
      refine an_topi (fun v11 hv11 => ?_)
      replace h := ao_letD h hv11
      refine ao_istore_n 1 (lo' := [some (.ref (Γ.2.2.2 + r0)), some (.int v11)]) dX9_scan_59 rfl (Nat.le_of_ble_eq_true rfl) rfl ?_
      refine ao_aload_n 0 dX9_scan_60 rfl rfl ?_
      refine an_getI r0 9 2 (q := (RX9, TX9, 11)) dX9_scan_61 rfl hk7 (Nat.le_of_ble_eq_true rfl) rfl lf_X9_29 ?_
      refine ao_aload_n 0 dX9_scan_64 rfl rfl ?_
      refine an_getI r0 9 1 (q := (RX9, TX9, 11)) dX9_scan_65 rfl hk7 (Nat.le_of_ble_eq_true rfl) rfl lf_X9_25 ?_
      refine ao_icmp_lt 79 dX9_scan_68 (by decide) (fun c12 => ?_) (fun c12 => ?_)
      · replace h := ao_ifT h c12
        refine ao_iload_n 1 dX9_scan_79 rfl rfl ?_
        obtain ⟨p13, hp13, h⟩ := ao_bind h
        refine an_callSi [.int v11] (aX9_isLetter (d - 1) (by omega) _ v11 p10.2 ρ hp13) dX9_scan_80 lc_X9_61 lt_X9_isLetter rfl rfl (Nat.le_of_ble_eq_true rfl) (ao_hR (by omega) (by decide)) ?_
        refine ao_if_eq 97 dX9_scan_83 (by decide) (fun c14 => ?_) (fun c14 => ?_)
        · replace h := ao_ifT h c14
          refine ao_iload_n 1 dX9_scan_97 rfl rfl ?_
          obtain ⟨p15, hp15, h⟩ := ao_bind h
          refine an_callSi [.int v11] (aX9_isDigit (d - 1) (by omega) v11 p13.2 ρ hp15) dX9_scan_98 lc_X9_68 lt_X9_isDigit rfl rfl (Nat.le_of_ble_eq_true rfl) (ao_hR (by omega) (by decide)) ?_
          refine ao_if_eq 115 dX9_scan_101 (by decide) (fun c16 => ?_) (fun c16 => ?_)
          · replace h := ao_ifT h c16
            refine ao_aload_n 0 dX9_scan_115 rfl rfl ?_
            refine ao_aload_n 0 dX9_scan_116 rfl rfl ?_
            refine ao_iload_n 1 dX9_scan_117 rfl rfl ?_
            obtain ⟨p17, hp17, h⟩ := ao_bind h
            refine an_callVi r0 9 (q := (RX9, TX9, 11)) [.int v11] (aX9_signKind (d - 1) (by omega) r0 v11 p15.2 ρ hp17) dX9_scan_118 lc_X9_74 li_X9_signKind ls_X9_signKind rfl hk7 rfl rfl (Nat.le_of_ble_eq_true rfl) (ao_hR (by omega) (by decide)) ?_
            refine an_putI r0 9 8 (q := (RX9, TX9, 11)) dX9_scan_121 rfl hk7 (Nat.le_of_ble_eq_true rfl) lf_X9_32 rfl rfl rfl rfl (fun M18 hM18 => ?_)
            replace h := ao_letD h hM18
            cases h
            exact ao_return dX9_scan_124 rfl ⟨rfl, rfl⟩
          · replace h := ao_ifF h c16
            refine ao_aload_n 0 dX9_scan_104 rfl rfl ?_
            refine ao_aload_n 0 dX9_scan_105 rfl rfl ?_
            obtain ⟨p19, hp19, h⟩ := ao_bind h
            refine an_callVi r0 9 (q := (RX9, TX9, 11)) [] (aX9_numberKind (d - 1) (by omega) _ r0 p15.2 ρ hp19) dX9_scan_106 lc_X9_71 li_X9_numberKind ls_X9_numberKind rfl hk7 rfl rfl (Nat.le_of_ble_eq_true rfl) (ao_hR (by omega) (by decide)) ?_
            refine an_putI r0 9 8 (q := (RX9, TX9, 11)) dX9_scan_109 rfl hk7 (Nat.le_of_ble_eq_true rfl) lf_X9_32 rfl rfl rfl rfl (fun M20 hM20 => ?_)
            replace h := ao_letD h hM20
            refine ao_goto 124 dX9_scan_112 (by decide) ?_
            cases h
            exact ao_return dX9_scan_124 rfl ⟨rfl, rfl⟩
        · replace h := ao_ifF h c14
          refine ao_aload_n 0 dX9_scan_86 rfl rfl ?_
          refine ao_aload_n 0 dX9_scan_87 rfl rfl ?_
          obtain ⟨p21, hp21, h⟩ := ao_bind h
          refine an_callVi r0 9 (q := (RX9, TX9, 11)) [] (aX9_wordKind (d - 1) (by omega) _ r0 p13.2 ρ hp21) dX9_scan_88 lc_X9_64 li_X9_wordKind ls_X9_wordKind rfl hk7 rfl rfl (Nat.le_of_ble_eq_true rfl) (ao_hR (by omega) (by decide)) ?_
          refine an_putI r0 9 8 (q := (RX9, TX9, 11)) dX9_scan_91 rfl hk7 (Nat.le_of_ble_eq_true rfl) lf_X9_32 rfl rfl rfl rfl (fun M22 hM22 => ?_)
          replace h := ao_letD h hM22
          refine ao_goto 124 dX9_scan_94 (by decide) ?_
          cases h
          exact ao_return dX9_scan_124 rfl ⟨rfl, rfl⟩
      · replace h := ao_ifF h c12
        refine ao_aload_n 0 dX9_scan_71 rfl rfl ?_
        refine ao_iconst (v := 0) dX9_scan_72 (by decide) ?_
        refine an_putI r0 9 8 (q := (RX9, TX9, 11)) dX9_scan_73 rfl hk7 (Nat.le_of_ble_eq_true rfl) lf_X9_32 rfl rfl rfl rfl (fun M23 hM23 => ?_)
        replace h := ao_letD h hM23
        refine ao_goto 124 dX9_scan_76 (by decide) ?_
        cases h
        exact ao_return dX9_scan_124 rfl ⟨rfl, rfl⟩
set_option maxRecDepth 100000 in
set_option maxHeartbeats 4000000 in
theorem aX9_scan {Γ : ao_C} (d : Nat) (hd : 7 ≤ d) (n : Nat) (r0 : Nat) (M : ao_M) (ρ : ao_H) {y : ao_M} (h : gX9_scan n r0 M ρ = some y) : ao_A Γ uX9_scan d 0 0 [.ref (Γ.2.2.2 + r0)] (M, ρ) (ao_PV ρ y) := by
  refine ao_of (by decide) (ao_cat1 (Nat.le_of_ble_eq_true rfl)) (Nat.le_of_ble_eq_true rfl) ?_
  show ao_W Γ uX9_scan (ao_rm d 0 0) (ao_Q Γ (ao_PV ρ y) 0 0) 0 0 0 [some (.ref (Γ.2.2.2 + r0)), none] [] (M, ρ)
  exact (wX9_scan d hd n).1 r0 M y h

abbrev uX2_see : ao_Mi := (yX2_see, cX2_see, 3, (some .int), [])
def fX2_see : Nat → Nat → Nat → Nat → Int32 → Int32 →  ao_M → ao_H → Option (Int32 × ao_S)
  | 0, _, _, _, _, _, _, _ => none
  | n + 1, pc, r0, r1, x2, s0, M, ρ =>
    if pc = 0 then
      if x2 < 0 then
        some ((0 : Int32), M, ρ)
      else
        if x2 < (26 : Int32) then
          if ρ.2.1 r1 = 17 then
          if (M r1 8) ≤ 0 then
            fX2_see n 33 r0 r1 x2 0 M ρ
          else
            if ρ.2.1 r0 = 12 then
            (gX2_writesAtOnce n r0 M ρ).bind fun p6 =>
            if p6.1 = 0 then
              (gX2_seeHeld n r0 r1 x2 p6.2 ρ).bind fun p8 =>
              fX2_see n 32 r0 r1 x2 p8.1 p8.2.1 p8.2.2
            else
              fX2_see n 33 r0 r1 x2 0 p6.2 ρ
            else none
          else none
        else
          some ((0 : Int32), M, ρ)
    else if pc = 32 then
      some (s0, M, ρ)
    else if pc = 33 then
      if ρ.2.1 r1 = 17 then
      if (M r1 8) = 0 then
        if ρ.2.1 r0 = 12 then
        (ρ.1 r0 3).bind fun j19 =>
        if ρ.2.1 j19 = 16 then
        (gX6_begin n j19 (M r1 0) (M r0 6) (M r0 6) M ρ).bind fun p21 =>
        (ρ.1 r0 0).bind fun j22 =>
        if ρ.2.1 j22 = 15 then
        (ρ.1 j22 0).bind fun j24 =>
        if ρ.2.1 j24 = 0 then
        if ¬ (x2 < 0 ∨ ρ.2.2.1 j24 ≤ x2.toNatClampNeg) then
        (gX6_addRead n j19 x2 (p21 j24 x2.toNatClampNeg) p21 ρ).bind fun p27 =>
        fX2_see n 139 r0 r1 x2 0 p27 ρ
        else none
        else none
        else none
        else none
        else none
      else
        if ρ.2.1 r0 = 12 then
        (ρ.1 r0 0).bind fun j12 =>
        if ρ.2.1 j12 = 15 then
        (gX5_isTakenBy j12 x2 (M r1 0) M ρ).bind fun p14 =>
        if p14.1 = 0 then
          if (p14.2 r0 5) = (3 : Int32) then
            (gX2_mayTouch n r0 r1 x2 p14.2 ρ).bind fun p17 =>
            fX2_see n 108 r0 r1 x2 p17.1 p17.2.1 p17.2.2
          else
            fX2_see n 113 r0 r1 x2 0 p14.2 ρ
        else
          fX2_see n 139 r0 r1 x2 0 p14.2 ρ
        else none
        else none
      else none
    else if pc = 108 then
      if s0 = 0 then
        some ((1 : Int32), M, ρ)
      else
        fX2_see n 113 r0 r1 x2 0 M ρ
    else if pc = 113 then
      if ρ.2.1 r1 = 17 then
      (gX7_innermost n r1 M ρ).bind fun p30 =>
      if ρ.2.1 r0 = 12 then
      (ρ.1 r0 0).bind fun j32 =>
      if ρ.2.1 j32 = 15 then
      (ρ.1 j32 0).bind fun j34 =>
      if ρ.2.1 j34 = 0 then
      if ¬ (x2 < 0 ∨ ρ.2.2.1 j34 ≤ x2.toNatClampNeg) then
      (ρ.1 j32 1).bind fun j37 =>
      if ρ.2.1 j37 = 0 then
      if ¬ (x2 < 0 ∨ ρ.2.2.1 j37 ≤ x2.toNatClampNeg) then
      if ρ.2.1 p30.1 = 13 then
      (gX3_addRead p30.1 x2 (p30.2 j34 x2.toNatClampNeg) (p30.2 j37 x2.toNatClampNeg) p30.2 ρ).bind fun p41 =>
      fX2_see n 139 r0 r1 x2 0 p41 ρ
      else none
      else none
      else none
      else none
      else none
      else none
      else none
      else none
    else if pc = 139 then
      if ρ.2.1 r0 = 12 then
      (ρ.1 r0 0).bind fun j43 =>
      if ρ.2.1 j43 = 15 then
      (ρ.1 j43 0).bind fun j45 =>
      if ρ.2.1 j45 = 0 then
      if ¬ (x2 < 0 ∨ ρ.2.2.1 j45 ≤ x2.toNatClampNeg) then
      if ρ.2.1 r1 = 17 then
      (gX7_push r1 (M j45 x2.toNatClampNeg) M ρ).bind fun p49 =>
      some ((0 : Int32), p49, ρ)
      else none
      else none
      else none
      else none
      else none
    else none
def gX2_see (n : Nat) (r0 : Nat) (r1 : Nat) (x2 : Int32) (M : ao_M) (ρ : ao_H) : Option (Int32 × ao_S) := fX2_see n 0 r0 r1 x2 0 M ρ
set_option maxRecDepth 100000 in
set_option maxHeartbeats 4000000 in
theorem mX2_see : ∀ n : Nat, (∀ (r0 : Nat) (r1 : Nat) (x2 : Int32) (M : ao_M) (ρ : ao_H) (y : Int32 × ao_S), fX2_see n 0 r0 r1 x2 0 M ρ = some y → ao_le ρ y.2.2) ∧ (∀ (r0 : Nat) (r1 : Nat) (x2 : Int32) (s0 : Int32) (M : ao_M) (ρ : ao_H) (y : Int32 × ao_S), fX2_see n 32 r0 r1 x2 s0 M ρ = some y → ao_le ρ y.2.2) ∧ (∀ (r0 : Nat) (r1 : Nat) (x2 : Int32) (M : ao_M) (ρ : ao_H) (y : Int32 × ao_S), fX2_see n 33 r0 r1 x2 0 M ρ = some y → ao_le ρ y.2.2) ∧ (∀ (r0 : Nat) (r1 : Nat) (x2 : Int32) (s0 : Int32) (M : ao_M) (ρ : ao_H) (y : Int32 × ao_S), fX2_see n 108 r0 r1 x2 s0 M ρ = some y → ao_le ρ y.2.2) ∧ (∀ (r0 : Nat) (r1 : Nat) (x2 : Int32) (M : ao_M) (ρ : ao_H) (y : Int32 × ao_S), fX2_see n 113 r0 r1 x2 0 M ρ = some y → ao_le ρ y.2.2) ∧ (∀ (r0 : Nat) (r1 : Nat) (x2 : Int32) (M : ao_M) (ρ : ao_H) (y : Int32 × ao_S), fX2_see n 139 r0 r1 x2 0 M ρ = some y → ao_le ρ y.2.2) := by
  intro n
  induction n with
  | zero => exact ⟨fun _ _ _ _ _ _ h => ao_no h, fun _ _ _ _ _ _ _ h => ao_no h, fun _ _ _ _ _ _ h => ao_no h, fun _ _ _ _ _ _ _ h => ao_no h, fun _ _ _ _ _ _ h => ao_no h, fun _ _ _ _ _ _ h => ao_no h⟩
  | succ n ih =>
    refine ⟨?_, ?_, ?_, ?_, ?_, ?_⟩
    · intro r0 r1 x2 M ρ y h
      replace h := ao_ifT h rfl
      rcases ao_ifC h with h | h
      · cases h
        exact ao_le_rf _
      · rcases ao_ifC h with h | h
        · obtain ⟨-, h⟩ := ao_some h
          rcases ao_ifC h with h | h
          · exact ih.2.2.1 r0 r1 x2 M ρ _ h
          · obtain ⟨-, h⟩ := ao_some h
            obtain ⟨p6, hp6, h⟩ := ao_bind h
            rcases ao_ifC h with h | h
            · obtain ⟨p8, hp8, h⟩ := ao_bind h
              exact ao_le_tr (me_X2_seeHeld n r0 r1 x2 p6.2 ρ hp8) (ih.2.1 r0 r1 x2 p8.1 p8.2.1 p8.2.2 _ h)
            · exact ih.2.2.1 r0 r1 x2 p6.2 ρ _ h
        · cases h
          exact ao_le_rf _
    · intro r0 r1 x2 s0 M ρ y h
      replace h := ao_ifF h (by decide)
      replace h := ao_ifT h rfl
      cases h
      exact ao_le_rf _
    · intro r0 r1 x2 M ρ y h
      replace h := ao_ifF h (by decide)
      replace h := ao_ifF h (by decide)
      replace h := ao_ifT h rfl
      obtain ⟨-, h⟩ := ao_some h
      rcases ao_ifC h with h | h
      · obtain ⟨-, h⟩ := ao_some h
        obtain ⟨j19, hj19, h⟩ := ao_bind h
        obtain ⟨-, h⟩ := ao_some h
        obtain ⟨p21, hp21, h⟩ := ao_bind h
        obtain ⟨j22, hj22, h⟩ := ao_bind h
        obtain ⟨-, h⟩ := ao_some h
        obtain ⟨j24, hj24, h⟩ := ao_bind h
        obtain ⟨-, h⟩ := ao_some h
        obtain ⟨-, h⟩ := ao_some h
        obtain ⟨p27, hp27, h⟩ := ao_bind h
        exact ih.2.2.2.2.2 r0 r1 x2 p27 ρ _ h
      · obtain ⟨-, h⟩ := ao_some h
        obtain ⟨j12, hj12, h⟩ := ao_bind h
        obtain ⟨-, h⟩ := ao_some h
        obtain ⟨p14, hp14, h⟩ := ao_bind h
        rcases ao_ifC h with h | h
        · rcases ao_ifC h with h | h
          · obtain ⟨p17, hp17, h⟩ := ao_bind h
            exact ao_le_tr (me_X2_mayTouch n r0 r1 x2 p14.2 ρ hp17) (ih.2.2.2.1 r0 r1 x2 p17.1 p17.2.1 p17.2.2 _ h)
          · exact ih.2.2.2.2.1 r0 r1 x2 p14.2 ρ _ h
        · exact ih.2.2.2.2.2 r0 r1 x2 p14.2 ρ _ h
    · intro r0 r1 x2 s0 M ρ y h
      replace h := ao_ifF h (by decide)
      replace h := ao_ifF h (by decide)
      replace h := ao_ifF h (by decide)
      replace h := ao_ifT h rfl
      rcases ao_ifC h with h | h
      · cases h
        exact ao_le_rf _
      · exact ih.2.2.2.2.1 r0 r1 x2 M ρ _ h
    · intro r0 r1 x2 M ρ y h
      replace h := ao_ifF h (by decide)
      replace h := ao_ifF h (by decide)
      replace h := ao_ifF h (by decide)
      replace h := ao_ifF h (by decide)
      replace h := ao_ifT h rfl
      obtain ⟨-, h⟩ := ao_some h
      obtain ⟨p30, hp30, h⟩ := ao_bind h
      obtain ⟨-, h⟩ := ao_some h
      obtain ⟨j32, hj32, h⟩ := ao_bind h
      obtain ⟨-, h⟩ := ao_some h
      obtain ⟨j34, hj34, h⟩ := ao_bind h
      obtain ⟨-, h⟩ := ao_some h
      obtain ⟨-, h⟩ := ao_some h
      obtain ⟨j37, hj37, h⟩ := ao_bind h
      obtain ⟨-, h⟩ := ao_some h
      obtain ⟨-, h⟩ := ao_some h
      obtain ⟨-, h⟩ := ao_some h
      obtain ⟨p41, hp41, h⟩ := ao_bind h
      exact ih.2.2.2.2.2 r0 r1 x2 p41 ρ _ h
    · intro r0 r1 x2 M ρ y h
      replace h := ao_ifF h (by decide)
      replace h := ao_ifF h (by decide)
      replace h := ao_ifF h (by decide)
      replace h := ao_ifF h (by decide)
      replace h := ao_ifF h (by decide)
      replace h := ao_ifT h rfl
      obtain ⟨-, h⟩ := ao_some h
      obtain ⟨j43, hj43, h⟩ := ao_bind h
      obtain ⟨-, h⟩ := ao_some h
      obtain ⟨j45, hj45, h⟩ := ao_bind h
      obtain ⟨-, h⟩ := ao_some h
      obtain ⟨-, h⟩ := ao_some h
      obtain ⟨-, h⟩ := ao_some h
      obtain ⟨p49, hp49, h⟩ := ao_bind h
      cases h
      exact ao_le_rf _
set_option maxRecDepth 100000 in
set_option maxHeartbeats 4000000 in
theorem wX2_see {Γ : ao_C} (d : Nat) (hd : 6 ≤ d) (MC MS : Nat) : ∀ n : Nat, (∀ (r0 : Nat) (r1 : Nat) (x2 : Int32) (M : ao_M) (ρ : ao_H) (y : Int32 × ao_S), fX2_see n 0 r0 r1 x2 0 M ρ = some y → ao_W Γ uX2_see (ao_rm d MC MS) (ao_Q Γ (ao_QI y) MC MS) (ao_dc ρ y.2.2) (ao_ds ρ y.2.2) 0 [some (.ref (Γ.2.2.2 + r0)), some (.ref (Γ.2.2.2 + r1)), some (.int x2)] [] (M, ρ)) ∧ (∀ (r0 : Nat) (r1 : Nat) (x2 : Int32) (s0 : Int32) (M : ao_M) (ρ : ao_H) (y : Int32 × ao_S), fX2_see n 32 r0 r1 x2 s0 M ρ = some y → ao_W Γ uX2_see (ao_rm d MC MS) (ao_Q Γ (ao_QI y) MC MS) (ao_dc ρ y.2.2) (ao_ds ρ y.2.2) 32 [some (.ref (Γ.2.2.2 + r0)), some (.ref (Γ.2.2.2 + r1)), some (.int x2)] [.int s0] (M, ρ)) ∧ (∀ (r0 : Nat) (r1 : Nat) (x2 : Int32) (M : ao_M) (ρ : ao_H) (y : Int32 × ao_S), fX2_see n 33 r0 r1 x2 0 M ρ = some y → ao_W Γ uX2_see (ao_rm d MC MS) (ao_Q Γ (ao_QI y) MC MS) (ao_dc ρ y.2.2) (ao_ds ρ y.2.2) 33 [some (.ref (Γ.2.2.2 + r0)), some (.ref (Γ.2.2.2 + r1)), some (.int x2)] [] (M, ρ)) ∧ (∀ (r0 : Nat) (r1 : Nat) (x2 : Int32) (s0 : Int32) (M : ao_M) (ρ : ao_H) (y : Int32 × ao_S), fX2_see n 108 r0 r1 x2 s0 M ρ = some y → ao_W Γ uX2_see (ao_rm d MC MS) (ao_Q Γ (ao_QI y) MC MS) (ao_dc ρ y.2.2) (ao_ds ρ y.2.2) 108 [some (.ref (Γ.2.2.2 + r0)), some (.ref (Γ.2.2.2 + r1)), some (.int x2)] [.int s0] (M, ρ)) ∧ (∀ (r0 : Nat) (r1 : Nat) (x2 : Int32) (M : ao_M) (ρ : ao_H) (y : Int32 × ao_S), fX2_see n 113 r0 r1 x2 0 M ρ = some y → ao_W Γ uX2_see (ao_rm d MC MS) (ao_Q Γ (ao_QI y) MC MS) (ao_dc ρ y.2.2) (ao_ds ρ y.2.2) 113 [some (.ref (Γ.2.2.2 + r0)), some (.ref (Γ.2.2.2 + r1)), some (.int x2)] [] (M, ρ)) ∧ (∀ (r0 : Nat) (r1 : Nat) (x2 : Int32) (M : ao_M) (ρ : ao_H) (y : Int32 × ao_S), fX2_see n 139 r0 r1 x2 0 M ρ = some y → ao_W Γ uX2_see (ao_rm d MC MS) (ao_Q Γ (ao_QI y) MC MS) (ao_dc ρ y.2.2) (ao_ds ρ y.2.2) 139 [some (.ref (Γ.2.2.2 + r0)), some (.ref (Γ.2.2.2 + r1)), some (.int x2)] [] (M, ρ)) := by
  intro n
  induction n with
  | zero => exact ⟨fun _ _ _ _ _ _ h => ao_no h, fun _ _ _ _ _ _ _ h => ao_no h, fun _ _ _ _ _ _ h => ao_no h, fun _ _ _ _ _ _ _ h => ao_no h, fun _ _ _ _ _ _ h => ao_no h, fun _ _ _ _ _ _ h => ao_no h⟩
  | succ n ih =>
    refine ⟨?_, ?_, ?_, ?_, ?_, ?_⟩
    · intro r0 r1 x2 M ρ y h
      replace h := ao_ifT h rfl
      refine ao_iload_n 2 dX2_see_0 rfl rfl ?_
      refine ao_if_lt 10 dX2_see_1 (by decide) (fun c1 => ?_) (fun c1 => ?_)
      · replace h := ao_ifT h c1
        refine ao_iconst (v := 0) dX2_see_10 (by decide) ?_
        cases h
        exact ao_ireturn dX2_see_11 rfl rfl ⟨rfl, rfl⟩
      · replace h := ao_ifF h c1
        refine ao_iload_n 2 dX2_see_4 rfl rfl ?_
        refine ao_bipush (v := 26) dX2_see_5 (by decide) ?_
        refine ao_icmp_lt 12 dX2_see_7 (by decide) (fun c2 => ?_) (fun c2 => ?_)
        · replace h := ao_ifT h c2
          refine ao_aload_n 1 dX2_see_12 rfl rfl ?_
          obtain ⟨hk3, h⟩ := ao_some h
          refine an_getI r1 7 8 (q := (RX7, TX7, 20)) dX2_see_13 rfl hk3 (Nat.le_of_ble_eq_true rfl) rfl lf_X2_165 ?_
          refine ao_if_le 33 dX2_see_16 (by decide) (fun c4 => ?_) (fun c4 => ?_)
          · replace h := ao_ifT h c4
            exact ih.2.2.1 r0 r1 x2 M ρ _ h
          · replace h := ao_ifF h c4
            refine ao_aload_n 0 dX2_see_19 rfl rfl ?_
            obtain ⟨hk5, h⟩ := ao_some h
            obtain ⟨p6, hp6, h⟩ := ao_bind h
            refine an_callVi r0 2 (q := (RX2, TX2, 7)) [] (aX2_writesAtOnce (d - 1) (by omega) _ r0 M ρ hp6) dX2_see_20 lc_X2_178 li_X2_writesAtOnce ls_X2_writesAtOnce rfl hk5 rfl rfl (Nat.le_of_ble_eq_true rfl) (ao_hR (by omega) (by decide)) ?_
            refine ao_if_ne 33 dX2_see_23 (by decide) (fun c7 => ?_) (fun c7 => ?_)
            · replace h := ao_ifF h c7
              exact ih.2.2.1 r0 r1 x2 p6.2 ρ _ h
            · replace h := ao_ifT h c7
              refine ao_aload_n 0 dX2_see_26 rfl rfl ?_
              refine ao_aload_n 1 dX2_see_27 rfl rfl ?_
              refine ao_iload_n 2 dX2_see_28 rfl rfl ?_
              obtain ⟨p8, hp8, h⟩ := ao_bind h
              refine ba_callVi r0 2 (q := (RX2, TX2, 7)) [.ref (Γ.2.2.2 + r1), .int x2] (aX2_seeHeld (d - 1) (by omega) n r0 r1 x2 p6.2 ρ hp8) dX2_see_29 lc_X2_181 li_X2_seeHeld ls_X2_seeHeld rfl hk5 rfl rfl (Nat.le_of_ble_eq_true rfl) (ao_hR (by omega) (by decide)) (ao_leC (me_X2_seeHeld n r0 r1 x2 p6.2 ρ hp8) ((mX2_see n).2.1 r0 r1 x2 p8.1 p8.2.1 p8.2.2 _ h)) (ao_leS (me_X2_seeHeld n r0 r1 x2 p6.2 ρ hp8) ((mX2_see n).2.1 r0 r1 x2 p8.1 p8.2.1 p8.2.2 _ h)) ?_
              exact ih.2.1 r0 r1 x2 p8.1 p8.2.1 p8.2.2 _ h
        · replace h := ao_ifF h c2
          refine ao_iconst (v := 0) dX2_see_10 (by decide) ?_
          cases h
          exact ao_ireturn dX2_see_11 rfl rfl ⟨rfl, rfl⟩
    · intro r0 r1 x2 s0 M ρ y h
      replace h := ao_ifF h (by decide)
      replace h := ao_ifT h rfl
      cases h
      exact ao_ireturn dX2_see_32 rfl rfl ⟨rfl, rfl⟩
    · intro r0 r1 x2 M ρ y h
      replace h := ao_ifF h (by decide)
      replace h := ao_ifF h (by decide)
      replace h := ao_ifT h rfl
      refine ao_aload_n 1 dX2_see_33 rfl rfl ?_
      obtain ⟨hk9, h⟩ := ao_some h
      refine an_getI r1 7 8 (q := (RX7, TX7, 20)) dX2_see_34 rfl hk9 (Nat.le_of_ble_eq_true rfl) rfl lf_X2_165 ?_
      refine ao_if_ne 79 dX2_see_37 (by decide) (fun c10 => ?_) (fun c10 => ?_)
      · replace h := ao_ifF h c10
        refine ao_aload_n 0 dX2_see_79 rfl rfl ?_
        obtain ⟨hk11, h⟩ := ao_some h
        obtain ⟨j12, hj12, h⟩ := ao_bind h
        refine an_getR r0 2 0 (q := (RX2, TX2, 7)) dX2_see_80 rfl hk11 (Nat.le_of_ble_eq_true rfl) rfl lf_X2_12 hj12 ?_
        refine ao_iload_n 2 dX2_see_83 rfl rfl ?_
        refine ao_aload_n 1 dX2_see_84 rfl rfl ?_
        refine an_getI r1 7 0 (q := (RX7, TX7, 20)) dX2_see_85 rfl hk9 (Nat.le_of_ble_eq_true rfl) rfl lf_X2_171 ?_
        obtain ⟨hk13, h⟩ := ao_some h
        obtain ⟨p14, hp14, h⟩ := ao_bind h
        refine an_callVi j12 5 (q := (RX5, TX5, 11)) [.int x2, .int (M r1 0)] (aX5_isTakenBy (d - 1) (by omega) j12 x2 (M r1 0) M ρ hp14) dX2_see_88 lc_X2_194 li_X5_isTakenBy ls_X5_isTakenBy rfl hk13 rfl rfl (Nat.le_of_ble_eq_true rfl) (ao_hR (by omega) (by decide)) ?_
        refine ao_if_ne 139 dX2_see_91 (by decide) (fun c15 => ?_) (fun c15 => ?_)
        · replace h := ao_ifF h c15
          exact ih.2.2.2.2.2 r0 r1 x2 p14.2 ρ _ h
        · replace h := ao_ifT h c15
          refine ao_aload_n 0 dX2_see_94 rfl rfl ?_
          refine an_getI r0 2 5 (q := (RX2, TX2, 7)) dX2_see_95 rfl hk11 (Nat.le_of_ble_eq_true rfl) rfl lf_X2_41 ?_
          refine ao_iconst (v := 3) dX2_see_98 (by decide) ?_
          refine ao_icmp_ne 113 dX2_see_99 (by decide) (fun c16 => ?_) (fun c16 => ?_)
          · replace h := ao_ifF h c16
            exact ih.2.2.2.2.1 r0 r1 x2 p14.2 ρ _ h
          · replace h := ao_ifT h c16
            refine ao_aload_n 0 dX2_see_102 rfl rfl ?_
            refine ao_aload_n 1 dX2_see_103 rfl rfl ?_
            refine ao_iload_n 2 dX2_see_104 rfl rfl ?_
            obtain ⟨p17, hp17, h⟩ := ao_bind h
            refine ba_callVi r0 2 (q := (RX2, TX2, 7)) [.ref (Γ.2.2.2 + r1), .int x2] (aX2_mayTouch (d - 1) (by omega) n r0 r1 x2 p14.2 ρ hp17) dX2_see_105 lc_X2_198 li_X2_mayTouch ls_X2_mayTouch rfl hk11 rfl rfl (Nat.le_of_ble_eq_true rfl) (ao_hR (by omega) (by decide)) (ao_leC (me_X2_mayTouch n r0 r1 x2 p14.2 ρ hp17) ((mX2_see n).2.2.2.1 r0 r1 x2 p17.1 p17.2.1 p17.2.2 _ h)) (ao_leS (me_X2_mayTouch n r0 r1 x2 p14.2 ρ hp17) ((mX2_see n).2.2.2.1 r0 r1 x2 p17.1 p17.2.1 p17.2.2 _ h)) ?_
            exact ih.2.2.2.1 r0 r1 x2 p17.1 p17.2.1 p17.2.2 _ h
      · replace h := ao_ifT h c10
        refine ao_aload_n 0 dX2_see_40 rfl rfl ?_
        obtain ⟨hk18, h⟩ := ao_some h
        obtain ⟨j19, hj19, h⟩ := ao_bind h
        refine an_getR r0 2 3 (q := (RX2, TX2, 7)) dX2_see_41 rfl hk18 (Nat.le_of_ble_eq_true rfl) rfl lf_X2_28 hj19 ?_
        refine ao_aload_n 1 dX2_see_44 rfl rfl ?_
        refine an_getI r1 7 0 (q := (RX7, TX7, 20)) dX2_see_45 rfl hk9 (Nat.le_of_ble_eq_true rfl) rfl lf_X2_171 ?_
        refine ao_aload_n 0 dX2_see_48 rfl rfl ?_
        refine an_getI r0 2 6 (q := (RX2, TX2, 7)) dX2_see_49 rfl hk18 (Nat.le_of_ble_eq_true rfl) rfl lf_X2_77 ?_
        refine ao_aload_n 0 dX2_see_52 rfl rfl ?_
        refine an_getI r0 2 6 (q := (RX2, TX2, 7)) dX2_see_53 rfl hk18 (Nat.le_of_ble_eq_true rfl) rfl lf_X2_77 ?_
        obtain ⟨hk20, h⟩ := ao_some h
        obtain ⟨p21, hp21, h⟩ := ao_bind h
        refine an_callVv j19 6 (q := (RX6, TX6, 11)) [.int (M r1 0), .int (M r0 6), .int (M r0 6)] (aX6_begin (d - 1) (by omega) _ j19 (M r1 0) (M r0 6) (M r0 6) M ρ hp21) dX2_see_56 lc_X2_184 li_X6_begin ls_X6_begin rfl hk20 rfl rfl (Nat.le_of_ble_eq_true rfl) (ao_hR (by omega) (by decide)) ?_
        refine ao_aload_n 0 dX2_see_59 rfl rfl ?_
        refine an_getR r0 2 3 (q := (RX2, TX2, 7)) dX2_see_60 rfl hk18 (Nat.le_of_ble_eq_true rfl) rfl lf_X2_28 hj19 ?_
        refine ao_iload_n 2 dX2_see_63 rfl rfl ?_
        refine ao_aload_n 0 dX2_see_64 rfl rfl ?_
        obtain ⟨j22, hj22, h⟩ := ao_bind h
        refine an_getR r0 2 0 (q := (RX2, TX2, 7)) dX2_see_65 rfl hk18 (Nat.le_of_ble_eq_true rfl) rfl lf_X2_12 hj22 ?_
        obtain ⟨hk23, h⟩ := ao_some h
        obtain ⟨j24, hj24, h⟩ := ao_bind h
        refine an_getR j22 5 0 (q := (RX5, TX5, 11)) dX2_see_68 rfl hk23 (Nat.le_of_ble_eq_true rfl) rfl lf_X2_188 hj24 ?_
        refine ao_iload_n 2 dX2_see_71 rfl rfl ?_
        obtain ⟨hk25, h⟩ := ao_some h
        obtain ⟨hb26, h⟩ := ao_some h
        refine an_iaload j24 dX2_see_72 hk25 hb26 ?_
        obtain ⟨p27, hp27, h⟩ := ao_bind h
        refine an_callVv j19 6 (q := (RX6, TX6, 11)) [.int x2, .int (p21 j24 x2.toNatClampNeg)] (aX6_addRead (d - 1) (by omega) _ j19 x2 (p21 j24 x2.toNatClampNeg) p21 ρ hp27) dX2_see_73 lc_X2_191 li_X6_addRead ls_X6_addRead rfl hk20 rfl rfl (Nat.le_of_ble_eq_true rfl) (ao_hR (by omega) (by decide)) ?_
        refine ao_goto 139 dX2_see_76 (by decide) ?_
        exact ih.2.2.2.2.2 r0 r1 x2 p27 ρ _ h
    · intro r0 r1 x2 s0 M ρ y h
      replace h := ao_ifF h (by decide)
      replace h := ao_ifF h (by decide)
      replace h := ao_ifF h (by decide)
      replace h := ao_ifT h rfl
      refine ao_if_ne 113 dX2_see_108 (by decide) (fun c28 => ?_) (fun c28 => ?_)
      · replace h := ao_ifF h c28
        exact ih.2.2.2.2.1 r0 r1 x2 M ρ _ h
      · replace h := ao_ifT h c28
        refine ao_iconst (v := 1) dX2_see_111 (by decide) ?_
        cases h
        exact ao_ireturn dX2_see_112 rfl rfl ⟨rfl, rfl⟩
    · intro r0 r1 x2 M ρ y h
      replace h := ao_ifF h (by decide)
      replace h := ao_ifF h (by decide)
      replace h := ao_ifF h (by decide)
      replace h := ao_ifF h (by decide)
      replace h := ao_ifT h rfl
      refine ao_aload_n 1 dX2_see_113 rfl rfl ?_
      obtain ⟨hk29, h⟩ := ao_some h
      obtain ⟨p30, hp30, h⟩ := ao_bind h
      refine an_callVr r1 7 (q := (RX7, TX7, 20)) [] (aX7_innermost (d - 1) (by omega) _ r1 M ρ hp30) dX2_see_114 lc_X2_202 li_X7_innermost ls_X7_innermost rfl hk29 rfl rfl (Nat.le_of_ble_eq_true rfl) (ao_hR (by omega) (by decide)) ?_
      refine ao_iload_n 2 dX2_see_117 rfl rfl ?_
      refine ao_aload_n 0 dX2_see_118 rfl rfl ?_
      obtain ⟨hk31, h⟩ := ao_some h
      obtain ⟨j32, hj32, h⟩ := ao_bind h
      refine an_getR r0 2 0 (q := (RX2, TX2, 7)) dX2_see_119 rfl hk31 (Nat.le_of_ble_eq_true rfl) rfl lf_X2_12 hj32 ?_
      obtain ⟨hk33, h⟩ := ao_some h
      obtain ⟨j34, hj34, h⟩ := ao_bind h
      refine an_getR j32 5 0 (q := (RX5, TX5, 11)) dX2_see_122 rfl hk33 (Nat.le_of_ble_eq_true rfl) rfl lf_X2_188 hj34 ?_
      refine ao_iload_n 2 dX2_see_125 rfl rfl ?_
      obtain ⟨hk35, h⟩ := ao_some h
      obtain ⟨hb36, h⟩ := ao_some h
      refine an_iaload j34 dX2_see_126 hk35 hb36 ?_
      refine ao_aload_n 0 dX2_see_127 rfl rfl ?_
      refine an_getR r0 2 0 (q := (RX2, TX2, 7)) dX2_see_128 rfl hk31 (Nat.le_of_ble_eq_true rfl) rfl lf_X2_12 hj32 ?_
      obtain ⟨j37, hj37, h⟩ := ao_bind h
      refine an_getR j32 5 1 (q := (RX5, TX5, 11)) dX2_see_131 rfl hk33 (Nat.le_of_ble_eq_true rfl) rfl lf_X2_206 hj37 ?_
      refine ao_iload_n 2 dX2_see_134 rfl rfl ?_
      obtain ⟨hk38, h⟩ := ao_some h
      obtain ⟨hb39, h⟩ := ao_some h
      refine an_iaload j37 dX2_see_135 hk38 hb39 ?_
      obtain ⟨hk40, h⟩ := ao_some h
      obtain ⟨p41, hp41, h⟩ := ao_bind h
      refine an_callVv p30.1 3 (q := (RX3, TX3, 12)) [.int x2, .int (p30.2 j34 x2.toNatClampNeg), .int (p30.2 j37 x2.toNatClampNeg)] (aX3_addRead (d - 1) (by omega) p30.1 x2 (p30.2 j34 x2.toNatClampNeg) (p30.2 j37 x2.toNatClampNeg) p30.2 ρ hp41) dX2_see_136 lc_X2_209 li_X3_addRead ls_X3_addRead rfl hk40 rfl rfl (Nat.le_of_ble_eq_true rfl) (ao_hR (by omega) (by decide)) ?_
      exact ih.2.2.2.2.2 r0 r1 x2 p41 ρ _ h
    · intro r0 r1 x2 M ρ y h
      replace h := ao_ifF h (by decide)
      replace h := ao_ifF h (by decide)
      replace h := ao_ifF h (by decide)
      replace h := ao_ifF h (by decide)
      replace h := ao_ifF h (by decide)
      replace h := ao_ifT h rfl
      refine ao_aload_n 1 dX2_see_139 rfl rfl ?_
      refine ao_aload_n 0 dX2_see_140 rfl rfl ?_
      obtain ⟨hk42, h⟩ := ao_some h
      obtain ⟨j43, hj43, h⟩ := ao_bind h
      refine an_getR r0 2 0 (q := (RX2, TX2, 7)) dX2_see_141 rfl hk42 (Nat.le_of_ble_eq_true rfl) rfl lf_X2_12 hj43 ?_
      obtain ⟨hk44, h⟩ := ao_some h
      obtain ⟨j45, hj45, h⟩ := ao_bind h
      refine an_getR j43 5 0 (q := (RX5, TX5, 11)) dX2_see_144 rfl hk44 (Nat.le_of_ble_eq_true rfl) rfl lf_X2_188 hj45 ?_
      refine ao_iload_n 2 dX2_see_147 rfl rfl ?_
      obtain ⟨hk46, h⟩ := ao_some h
      obtain ⟨hb47, h⟩ := ao_some h
      refine an_iaload j45 dX2_see_148 hk46 hb47 ?_
      obtain ⟨hk48, h⟩ := ao_some h
      obtain ⟨p49, hp49, h⟩ := ao_bind h
      refine an_callVv r1 7 (q := (RX7, TX7, 20)) [.int (M j45 x2.toNatClampNeg)] (aX7_push (d - 1) (by omega) r1 (M j45 x2.toNatClampNeg) M ρ hp49) dX2_see_149 lc_X2_152 li_X7_push ls_X7_push rfl hk48 rfl rfl (Nat.le_of_ble_eq_true rfl) (ao_hR (by omega) (by decide)) ?_
      refine ao_iconst (v := 0) dX2_see_152 (by decide) ?_
      cases h
      exact ao_ireturn dX2_see_153 rfl rfl ⟨rfl, rfl⟩
theorem me_X2_see (n : Nat) (r0 : Nat) (r1 : Nat) (x2 : Int32) (M : ao_M) (ρ : ao_H) {y : Int32 × ao_S} (h : gX2_see n r0 r1 x2 M ρ = some y) : ao_le ρ y.2.2 := (mX2_see n).1 r0 r1 x2 M ρ y h
set_option maxRecDepth 100000 in
set_option maxHeartbeats 4000000 in
theorem aX2_see {Γ : ao_C} (d : Nat) (hd : 6 ≤ d) (n : Nat) (r0 : Nat) (r1 : Nat) (x2 : Int32) (M : ao_M) (ρ : ao_H) {y : Int32 × ao_S} (h : gX2_see n r0 r1 x2 M ρ = some y) : ao_A Γ uX2_see d (ao_dc ρ y.2.2) (ao_ds ρ y.2.2) [.ref (Γ.2.2.2 + r0), .ref (Γ.2.2.2 + r1), .int x2] (M, ρ) (ao_QI y) := by
  refine ao_of (by decide) (ao_cat1 (Nat.le_of_ble_eq_true rfl)) (Nat.le_of_ble_eq_true rfl) ?_
  show ao_W Γ uX2_see (ao_rm d (ao_dc ρ y.2.2) (ao_ds ρ y.2.2)) (ao_Q Γ (ao_QI y) (ao_dc ρ y.2.2) (ao_ds ρ y.2.2)) (ao_dc ρ y.2.2) (ao_ds ρ y.2.2) 0 [some (.ref (Γ.2.2.2 + r0)), some (.ref (Γ.2.2.2 + r1)), some (.int x2)] [] (M, ρ)
  exact (wX2_see d hd _ _ n).1 r0 r1 x2 M ρ y h

abbrev uX2_write : ao_Mi := (yX2_write, cX2_write, 4, (some .int), [])
def fX2_write : Nat → Nat → Nat → Nat → Int32 → Int32 → Int32 →  ao_M → ao_H → Option (Int32 × ao_S)
  | 0, _, _, _, _, _, _, _, _ => none
  | n + 1, pc, r0, r1, x2, x3, s0, M, ρ =>
    if pc = 0 then
      if x2 < 0 then
        some ((0 : Int32), M, ρ)
      else
        if x2 < (26 : Int32) then
          if ρ.2.1 r1 = 17 then
          if (M r1 8) = 0 then
            if ρ.2.1 r0 = 12 then
            (ρ.1 r0 0).bind fun j14 =>
            if ρ.2.1 j14 = 15 then
            ao_let (ao_u M j14 4 ((M j14 4) + (1 : Int32))) fun M16 =>
            (gX5_change n j14 x2 x3 M16 ρ).bind fun p17 =>
            fX2_write n 41 r0 r1 x2 x3 0 p17.1 p17.2
            else none
            else none
          else
            if ρ.2.1 r0 = 12 then
            (gX2_writesAtOnce n r0 M ρ).bind fun p6 =>
            if p6.1 = 0 then
              (gX7_innermost n r1 p6.2 ρ).bind fun p10 =>
              if ρ.2.1 p10.1 = 13 then
              (gX3_addWrite p10.1 x2 x3 p10.2 ρ).bind fun p12 =>
              some ((0 : Int32), p12, ρ)
              else none
            else
              if (p6.2 r0 5) = (3 : Int32) then
                (gX2_mayTouch n r0 r1 x2 p6.2 ρ).bind fun p9 =>
                fX2_write n 103 r0 r1 x2 x3 p9.1 p9.2.1 p9.2.2
              else
                fX2_write n 108 r0 r1 x2 x3 0 p6.2 ρ
            else none
          else none
        else
          some ((0 : Int32), M, ρ)
    else if pc = 41 then
      if ρ.2.1 r0 = 12 then
      (ρ.1 r0 3).bind fun j19 =>
      if ρ.2.1 r1 = 17 then
      if ρ.2.1 j19 = 16 then
      (gX6_begin n j19 (M r1 0) (M r0 6) (M r0 6) M ρ).bind fun p22 =>
      (gX6_addWrite n j19 x2 x3 p22 ρ).bind fun p23 =>
      some ((0 : Int32), p23, ρ)
      else none
      else none
      else none
    else if pc = 103 then
      if s0 = 0 then
        some ((1 : Int32), M, ρ)
      else
        fX2_write n 108 r0 r1 x2 x3 0 M ρ
    else if pc = 108 then
      if ρ.2.1 r1 = 17 then
      (gX7_innermost n r1 M ρ).bind fun p26 =>
      if ρ.2.1 p26.1 = 13 then
      (gX3_wrote p26.1 x2 p26.2 ρ).bind fun p28 =>
      if p28.1 = 0 then
        (gX7_innermost n r1 p28.2 ρ).bind fun p30 =>
        if ρ.2.1 r0 = 12 then
        (ρ.1 r0 0).bind fun j32 =>
        if ρ.2.1 j32 = 15 then
        (ρ.1 j32 0).bind fun j34 =>
        if ρ.2.1 j34 = 0 then
        if ¬ (x2 < 0 ∨ ρ.2.2.1 j34 ≤ x2.toNatClampNeg) then
        if ρ.2.1 p30.1 = 13 then
        (gX3_addWrite p30.1 x2 (p30.2 j34 x2.toNatClampNeg) p30.2 ρ).bind fun p38 =>
        fX2_write n 136 r0 r1 x2 x3 0 p38 ρ
        else none
        else none
        else none
        else none
        else none
      else
        fX2_write n 136 r0 r1 x2 x3 0 p28.2 ρ
      else none
      else none
    else if pc = 136 then
      if ρ.2.1 r0 = 12 then
      (ρ.1 r0 0).bind fun j40 =>
      if ρ.2.1 j40 = 15 then
      (ρ.1 j40 2).bind fun j42 =>
      if ρ.2.1 r1 = 17 then
      if ρ.2.1 j42 = 0 then
      if ¬ (x2 < 0 ∨ ρ.2.2.1 j42 ≤ x2.toNatClampNeg) then
      ao_let (ao_u M j42 x2.toNatClampNeg (M r1 0)) fun M46 =>
      (ρ.1 j40 0).bind fun j47 =>
      if ρ.2.1 j47 = 0 then
      if ¬ (x2 < 0 ∨ ρ.2.2.1 j47 ≤ x2.toNatClampNeg) then
      ao_let (ao_u M46 j47 x2.toNatClampNeg x3) fun M50 =>
      some ((0 : Int32), M50, ρ)
      else none
      else none
      else none
      else none
      else none
      else none
      else none
    else none
def gX2_write (n : Nat) (r0 : Nat) (r1 : Nat) (x2 : Int32) (x3 : Int32) (M : ao_M) (ρ : ao_H) : Option (Int32 × ao_S) := fX2_write n 0 r0 r1 x2 x3 0 M ρ
set_option maxRecDepth 100000 in
set_option maxHeartbeats 4000000 in
theorem mX2_write : ∀ n : Nat, (∀ (r0 : Nat) (r1 : Nat) (x2 : Int32) (x3 : Int32) (M : ao_M) (ρ : ao_H) (y : Int32 × ao_S), fX2_write n 0 r0 r1 x2 x3 0 M ρ = some y → ao_le ρ y.2.2) ∧ (∀ (r0 : Nat) (r1 : Nat) (x2 : Int32) (x3 : Int32) (M : ao_M) (ρ : ao_H) (y : Int32 × ao_S), fX2_write n 41 r0 r1 x2 x3 0 M ρ = some y → ao_le ρ y.2.2) ∧ (∀ (r0 : Nat) (r1 : Nat) (x2 : Int32) (x3 : Int32) (s0 : Int32) (M : ao_M) (ρ : ao_H) (y : Int32 × ao_S), fX2_write n 103 r0 r1 x2 x3 s0 M ρ = some y → ao_le ρ y.2.2) ∧ (∀ (r0 : Nat) (r1 : Nat) (x2 : Int32) (x3 : Int32) (M : ao_M) (ρ : ao_H) (y : Int32 × ao_S), fX2_write n 108 r0 r1 x2 x3 0 M ρ = some y → ao_le ρ y.2.2) ∧ (∀ (r0 : Nat) (r1 : Nat) (x2 : Int32) (x3 : Int32) (M : ao_M) (ρ : ao_H) (y : Int32 × ao_S), fX2_write n 136 r0 r1 x2 x3 0 M ρ = some y → ao_le ρ y.2.2) := by
  intro n
  induction n with
  | zero => exact ⟨fun _ _ _ _ _ _ _ h => ao_no h, fun _ _ _ _ _ _ _ h => ao_no h, fun _ _ _ _ _ _ _ _ h => ao_no h, fun _ _ _ _ _ _ _ h => ao_no h, fun _ _ _ _ _ _ _ h => ao_no h⟩
  | succ n ih =>
    refine ⟨?_, ?_, ?_, ?_, ?_⟩
    · intro r0 r1 x2 x3 M ρ y h
      replace h := ao_ifT h rfl
      rcases ao_ifC h with h | h
      · cases h
        exact ao_le_rf _
      · rcases ao_ifC h with h | h
        · obtain ⟨-, h⟩ := ao_some h
          rcases ao_ifC h with h | h
          · obtain ⟨-, h⟩ := ao_some h
            obtain ⟨j14, hj14, h⟩ := ao_bind h
            obtain ⟨-, h⟩ := ao_some h
            replace h := ao_letD h rfl
            generalize (ao_u M j14 4 ((M j14 4) + (1 : Int32))) = M16 at h
            obtain ⟨p17, hp17, h⟩ := ao_bind h
            exact ao_le_tr (me_X5_change n j14 x2 x3 M16 ρ hp17) (ih.2.1 r0 r1 x2 x3 p17.1 p17.2 _ h)
          · obtain ⟨-, h⟩ := ao_some h
            obtain ⟨p6, hp6, h⟩ := ao_bind h
            rcases ao_ifC h with h | h
            · obtain ⟨p10, hp10, h⟩ := ao_bind h
              obtain ⟨-, h⟩ := ao_some h
              obtain ⟨p12, hp12, h⟩ := ao_bind h
              cases h
              exact ao_le_rf _
            · rcases ao_ifC h with h | h
              · obtain ⟨p9, hp9, h⟩ := ao_bind h
                exact ao_le_tr (me_X2_mayTouch n r0 r1 x2 p6.2 ρ hp9) (ih.2.2.1 r0 r1 x2 x3 p9.1 p9.2.1 p9.2.2 _ h)
              · exact ih.2.2.2.1 r0 r1 x2 x3 p6.2 ρ _ h
        · cases h
          exact ao_le_rf _
    · intro r0 r1 x2 x3 M ρ y h
      replace h := ao_ifF h (by decide)
      replace h := ao_ifT h rfl
      obtain ⟨-, h⟩ := ao_some h
      obtain ⟨j19, hj19, h⟩ := ao_bind h
      obtain ⟨-, h⟩ := ao_some h
      obtain ⟨-, h⟩ := ao_some h
      obtain ⟨p22, hp22, h⟩ := ao_bind h
      obtain ⟨p23, hp23, h⟩ := ao_bind h
      cases h
      exact ao_le_rf _
    · intro r0 r1 x2 x3 s0 M ρ y h
      replace h := ao_ifF h (by decide)
      replace h := ao_ifF h (by decide)
      replace h := ao_ifT h rfl
      rcases ao_ifC h with h | h
      · cases h
        exact ao_le_rf _
      · exact ih.2.2.2.1 r0 r1 x2 x3 M ρ _ h
    · intro r0 r1 x2 x3 M ρ y h
      replace h := ao_ifF h (by decide)
      replace h := ao_ifF h (by decide)
      replace h := ao_ifF h (by decide)
      replace h := ao_ifT h rfl
      obtain ⟨-, h⟩ := ao_some h
      obtain ⟨p26, hp26, h⟩ := ao_bind h
      obtain ⟨-, h⟩ := ao_some h
      obtain ⟨p28, hp28, h⟩ := ao_bind h
      rcases ao_ifC h with h | h
      · obtain ⟨p30, hp30, h⟩ := ao_bind h
        obtain ⟨-, h⟩ := ao_some h
        obtain ⟨j32, hj32, h⟩ := ao_bind h
        obtain ⟨-, h⟩ := ao_some h
        obtain ⟨j34, hj34, h⟩ := ao_bind h
        obtain ⟨-, h⟩ := ao_some h
        obtain ⟨-, h⟩ := ao_some h
        obtain ⟨-, h⟩ := ao_some h
        obtain ⟨p38, hp38, h⟩ := ao_bind h
        exact ih.2.2.2.2 r0 r1 x2 x3 p38 ρ _ h
      · exact ih.2.2.2.2 r0 r1 x2 x3 p28.2 ρ _ h
    · intro r0 r1 x2 x3 M ρ y h
      replace h := ao_ifF h (by decide)
      replace h := ao_ifF h (by decide)
      replace h := ao_ifF h (by decide)
      replace h := ao_ifF h (by decide)
      replace h := ao_ifT h rfl
      obtain ⟨-, h⟩ := ao_some h
      obtain ⟨j40, hj40, h⟩ := ao_bind h
      obtain ⟨-, h⟩ := ao_some h
      obtain ⟨j42, hj42, h⟩ := ao_bind h
      obtain ⟨-, h⟩ := ao_some h
      obtain ⟨-, h⟩ := ao_some h
      obtain ⟨-, h⟩ := ao_some h
      replace h := ao_letD h rfl
      generalize (ao_u M j42 x2.toNatClampNeg (M r1 0)) = M46 at h
      obtain ⟨j47, hj47, h⟩ := ao_bind h
      obtain ⟨-, h⟩ := ao_some h
      obtain ⟨-, h⟩ := ao_some h
      replace h := ao_letD h rfl
      generalize (ao_u M46 j47 x2.toNatClampNeg x3) = M50 at h
      cases h
      exact ao_le_rf _
set_option maxRecDepth 100000 in
set_option maxHeartbeats 4000000 in
theorem wX2_write {Γ : ao_C} (d : Nat) (hd : 6 ≤ d) (MC MS : Nat) : ∀ n : Nat, (∀ (r0 : Nat) (r1 : Nat) (x2 : Int32) (x3 : Int32) (M : ao_M) (ρ : ao_H) (y : Int32 × ao_S), fX2_write n 0 r0 r1 x2 x3 0 M ρ = some y → ao_W Γ uX2_write (ao_rm d MC MS) (ao_Q Γ (ao_QI y) MC MS) (ao_dc ρ y.2.2) (ao_ds ρ y.2.2) 0 [some (.ref (Γ.2.2.2 + r0)), some (.ref (Γ.2.2.2 + r1)), some (.int x2), some (.int x3)] [] (M, ρ)) ∧ (∀ (r0 : Nat) (r1 : Nat) (x2 : Int32) (x3 : Int32) (M : ao_M) (ρ : ao_H) (y : Int32 × ao_S), fX2_write n 41 r0 r1 x2 x3 0 M ρ = some y → ao_W Γ uX2_write (ao_rm d MC MS) (ao_Q Γ (ao_QI y) MC MS) (ao_dc ρ y.2.2) (ao_ds ρ y.2.2) 41 [some (.ref (Γ.2.2.2 + r0)), some (.ref (Γ.2.2.2 + r1)), some (.int x2), some (.int x3)] [] (M, ρ)) ∧ (∀ (r0 : Nat) (r1 : Nat) (x2 : Int32) (x3 : Int32) (s0 : Int32) (M : ao_M) (ρ : ao_H) (y : Int32 × ao_S), fX2_write n 103 r0 r1 x2 x3 s0 M ρ = some y → ao_W Γ uX2_write (ao_rm d MC MS) (ao_Q Γ (ao_QI y) MC MS) (ao_dc ρ y.2.2) (ao_ds ρ y.2.2) 103 [some (.ref (Γ.2.2.2 + r0)), some (.ref (Γ.2.2.2 + r1)), some (.int x2), some (.int x3)] [.int s0] (M, ρ)) ∧ (∀ (r0 : Nat) (r1 : Nat) (x2 : Int32) (x3 : Int32) (M : ao_M) (ρ : ao_H) (y : Int32 × ao_S), fX2_write n 108 r0 r1 x2 x3 0 M ρ = some y → ao_W Γ uX2_write (ao_rm d MC MS) (ao_Q Γ (ao_QI y) MC MS) (ao_dc ρ y.2.2) (ao_ds ρ y.2.2) 108 [some (.ref (Γ.2.2.2 + r0)), some (.ref (Γ.2.2.2 + r1)), some (.int x2), some (.int x3)] [] (M, ρ)) ∧ (∀ (r0 : Nat) (r1 : Nat) (x2 : Int32) (x3 : Int32) (M : ao_M) (ρ : ao_H) (y : Int32 × ao_S), fX2_write n 136 r0 r1 x2 x3 0 M ρ = some y → ao_W Γ uX2_write (ao_rm d MC MS) (ao_Q Γ (ao_QI y) MC MS) (ao_dc ρ y.2.2) (ao_ds ρ y.2.2) 136 [some (.ref (Γ.2.2.2 + r0)), some (.ref (Γ.2.2.2 + r1)), some (.int x2), some (.int x3)] [] (M, ρ)) := by
  intro n
  induction n with
  | zero => exact ⟨fun _ _ _ _ _ _ _ h => ao_no h, fun _ _ _ _ _ _ _ h => ao_no h, fun _ _ _ _ _ _ _ _ h => ao_no h, fun _ _ _ _ _ _ _ h => ao_no h, fun _ _ _ _ _ _ _ h => ao_no h⟩
  | succ n ih =>
    refine ⟨?_, ?_, ?_, ?_, ?_⟩
    · intro r0 r1 x2 x3 M ρ y h
      replace h := ao_ifT h rfl
      refine ao_iload_n 2 dX2_write_0 rfl rfl ?_
      refine ao_if_lt 10 dX2_write_1 (by decide) (fun c1 => ?_) (fun c1 => ?_)
      · replace h := ao_ifT h c1
        refine ao_iconst (v := 0) dX2_write_10 (by decide) ?_
        cases h
        exact ao_ireturn dX2_write_11 rfl rfl ⟨rfl, rfl⟩
      · replace h := ao_ifF h c1
        refine ao_iload_n 2 dX2_write_4 rfl rfl ?_
        refine ao_bipush (v := 26) dX2_write_5 (by decide) ?_
        refine ao_icmp_lt 12 dX2_write_7 (by decide) (fun c2 => ?_) (fun c2 => ?_)
        · replace h := ao_ifT h c2
          refine ao_aload_n 1 dX2_write_12 rfl rfl ?_
          obtain ⟨hk3, h⟩ := ao_some h
          refine an_getI r1 7 8 (q := (RX7, TX7, 20)) dX2_write_13 rfl hk3 (Nat.le_of_ble_eq_true rfl) rfl lf_X2_165 ?_
          refine ao_if_ne 71 dX2_write_16 (by decide) (fun c4 => ?_) (fun c4 => ?_)
          · replace h := ao_ifF h c4
            refine ao_aload_n 0 dX2_write_71 rfl rfl ?_
            obtain ⟨hk5, h⟩ := ao_some h
            obtain ⟨p6, hp6, h⟩ := ao_bind h
            refine an_callVi r0 2 (q := (RX2, TX2, 7)) [] (aX2_writesAtOnce (d - 1) (by omega) _ r0 M ρ hp6) dX2_write_72 lc_X2_178 li_X2_writesAtOnce ls_X2_writesAtOnce rfl hk5 rfl rfl (Nat.le_of_ble_eq_true rfl) (ao_hR (by omega) (by decide)) ?_
            refine ao_if_ne 89 dX2_write_75 (by decide) (fun c7 => ?_) (fun c7 => ?_)
            · replace h := ao_ifF h c7
              refine ao_aload_n 0 dX2_write_89 rfl rfl ?_
              refine an_getI r0 2 5 (q := (RX2, TX2, 7)) dX2_write_90 rfl hk5 (Nat.le_of_ble_eq_true rfl) rfl lf_X2_41 ?_
              refine ao_iconst (v := 3) dX2_write_93 (by decide) ?_
              refine ao_icmp_ne 108 dX2_write_94 (by decide) (fun c8 => ?_) (fun c8 => ?_)
              · replace h := ao_ifF h c8
                exact ih.2.2.2.1 r0 r1 x2 x3 p6.2 ρ _ h
              · replace h := ao_ifT h c8
                refine ao_aload_n 0 dX2_write_97 rfl rfl ?_
                refine ao_aload_n 1 dX2_write_98 rfl rfl ?_
                refine ao_iload_n 2 dX2_write_99 rfl rfl ?_
                obtain ⟨p9, hp9, h⟩ := ao_bind h
                refine ba_callVi r0 2 (q := (RX2, TX2, 7)) [.ref (Γ.2.2.2 + r1), .int x2] (aX2_mayTouch (d - 1) (by omega) n r0 r1 x2 p6.2 ρ hp9) dX2_write_100 lc_X2_198 li_X2_mayTouch ls_X2_mayTouch rfl hk5 rfl rfl (Nat.le_of_ble_eq_true rfl) (ao_hR (by omega) (by decide)) (ao_leC (me_X2_mayTouch n r0 r1 x2 p6.2 ρ hp9) ((mX2_write n).2.2.1 r0 r1 x2 x3 p9.1 p9.2.1 p9.2.2 _ h)) (ao_leS (me_X2_mayTouch n r0 r1 x2 p6.2 ρ hp9) ((mX2_write n).2.2.1 r0 r1 x2 x3 p9.1 p9.2.1 p9.2.2 _ h)) ?_
                exact ih.2.2.1 r0 r1 x2 x3 p9.1 p9.2.1 p9.2.2 _ h
            · replace h := ao_ifT h c7
              refine ao_aload_n 1 dX2_write_78 rfl rfl ?_
              obtain ⟨p10, hp10, h⟩ := ao_bind h
              refine an_callVr r1 7 (q := (RX7, TX7, 20)) [] (aX7_innermost (d - 1) (by omega) _ r1 p6.2 ρ hp10) dX2_write_79 lc_X2_202 li_X7_innermost ls_X7_innermost rfl hk3 rfl rfl (Nat.le_of_ble_eq_true rfl) (ao_hR (by omega) (by decide)) ?_
              refine ao_iload_n 2 dX2_write_82 rfl rfl ?_
              refine ao_iload_n 3 dX2_write_83 rfl rfl ?_
              obtain ⟨hk11, h⟩ := ao_some h
              obtain ⟨p12, hp12, h⟩ := ao_bind h
              refine an_callVv p10.1 3 (q := (RX3, TX3, 12)) [.int x2, .int x3] (aX3_addWrite (d - 1) (by omega) p10.1 x2 x3 p10.2 ρ hp12) dX2_write_84 lc_X2_244 li_X3_addWrite ls_X3_addWrite rfl hk11 rfl rfl (Nat.le_of_ble_eq_true rfl) (ao_hR (by omega) (by decide)) ?_
              refine ao_iconst (v := 0) dX2_write_87 (by decide) ?_
              cases h
              exact ao_ireturn dX2_write_88 rfl rfl ⟨rfl, rfl⟩
          · replace h := ao_ifT h c4
            refine ao_aload_n 0 dX2_write_19 rfl rfl ?_
            obtain ⟨hk13, h⟩ := ao_some h
            obtain ⟨j14, hj14, h⟩ := ao_bind h
            refine an_getR r0 2 0 (q := (RX2, TX2, 7)) dX2_write_20 rfl hk13 (Nat.le_of_ble_eq_true rfl) rfl lf_X2_12 hj14 ?_
            refine ao_dup dX2_write_23 rfl ?_
            obtain ⟨hk15, h⟩ := ao_some h
            refine an_getI j14 5 4 (q := (RX5, TX5, 11)) dX2_write_24 rfl hk15 (Nat.le_of_ble_eq_true rfl) rfl lf_X2_61 ?_
            refine ao_iconst (v := 1) dX2_write_27 (by decide) ?_
            refine ao_iadd dX2_write_28 ?_
            refine an_putI j14 5 4 (q := (RX5, TX5, 11)) dX2_write_29 rfl hk15 (Nat.le_of_ble_eq_true rfl) lf_X2_61 rfl rfl rfl rfl (fun M16 hM16 => ?_)
            replace h := ao_letD h hM16
            refine ao_aload_n 0 dX2_write_32 rfl rfl ?_
            refine an_getR r0 2 0 (q := (RX2, TX2, 7)) dX2_write_33 rfl hk13 (Nat.le_of_ble_eq_true rfl) rfl lf_X2_12 hj14 ?_
            refine ao_iload_n 2 dX2_write_36 rfl rfl ?_
            refine ao_iload_n 3 dX2_write_37 rfl rfl ?_
            obtain ⟨p17, hp17, h⟩ := ao_bind h
            refine ba_callVv j14 5 (q := (RX5, TX5, 11)) [.int x2, .int x3] (aX5_change (d - 1) (by omega) n j14 x2 x3 M16 ρ hp17) dX2_write_38 lc_X2_238 li_X5_change ls_X5_change rfl hk15 rfl rfl (Nat.le_of_ble_eq_true rfl) (ao_hR (by omega) (by decide)) (ao_leC (me_X5_change n j14 x2 x3 M16 ρ hp17) ((mX2_write n).2.1 r0 r1 x2 x3 p17.1 p17.2 _ h)) (ao_leS (me_X5_change n j14 x2 x3 M16 ρ hp17) ((mX2_write n).2.1 r0 r1 x2 x3 p17.1 p17.2 _ h)) ?_
            exact ih.2.1 r0 r1 x2 x3 p17.1 p17.2 _ h
        · replace h := ao_ifF h c2
          refine ao_iconst (v := 0) dX2_write_10 (by decide) ?_
          cases h
          exact ao_ireturn dX2_write_11 rfl rfl ⟨rfl, rfl⟩
    · intro r0 r1 x2 x3 M ρ y h
      replace h := ao_ifF h (by decide)
      replace h := ao_ifT h rfl
      refine ao_aload_n 0 dX2_write_41 rfl rfl ?_
      obtain ⟨hk18, h⟩ := ao_some h
      obtain ⟨j19, hj19, h⟩ := ao_bind h
      refine an_getR r0 2 3 (q := (RX2, TX2, 7)) dX2_write_42 rfl hk18 (Nat.le_of_ble_eq_true rfl) rfl lf_X2_28 hj19 ?_
      refine ao_aload_n 1 dX2_write_45 rfl rfl ?_
      obtain ⟨hk20, h⟩ := ao_some h
      refine an_getI r1 7 0 (q := (RX7, TX7, 20)) dX2_write_46 rfl hk20 (Nat.le_of_ble_eq_true rfl) rfl lf_X2_171 ?_
      refine ao_aload_n 0 dX2_write_49 rfl rfl ?_
      refine an_getI r0 2 6 (q := (RX2, TX2, 7)) dX2_write_50 rfl hk18 (Nat.le_of_ble_eq_true rfl) rfl lf_X2_77 ?_
      refine ao_aload_n 0 dX2_write_53 rfl rfl ?_
      refine an_getI r0 2 6 (q := (RX2, TX2, 7)) dX2_write_54 rfl hk18 (Nat.le_of_ble_eq_true rfl) rfl lf_X2_77 ?_
      obtain ⟨hk21, h⟩ := ao_some h
      obtain ⟨p22, hp22, h⟩ := ao_bind h
      refine an_callVv j19 6 (q := (RX6, TX6, 11)) [.int (M r1 0), .int (M r0 6), .int (M r0 6)] (aX6_begin (d - 1) (by omega) _ j19 (M r1 0) (M r0 6) (M r0 6) M ρ hp22) dX2_write_57 lc_X2_184 li_X6_begin ls_X6_begin rfl hk21 rfl rfl (Nat.le_of_ble_eq_true rfl) (ao_hR (by omega) (by decide)) ?_
      refine ao_aload_n 0 dX2_write_60 rfl rfl ?_
      refine an_getR r0 2 3 (q := (RX2, TX2, 7)) dX2_write_61 rfl hk18 (Nat.le_of_ble_eq_true rfl) rfl lf_X2_28 hj19 ?_
      refine ao_iload_n 2 dX2_write_64 rfl rfl ?_
      refine ao_iload_n 3 dX2_write_65 rfl rfl ?_
      obtain ⟨p23, hp23, h⟩ := ao_bind h
      refine an_callVv j19 6 (q := (RX6, TX6, 11)) [.int x2, .int x3] (aX6_addWrite (d - 1) (by omega) _ j19 x2 x3 p22 ρ hp23) dX2_write_66 lc_X2_241 li_X6_addWrite ls_X6_addWrite rfl hk21 rfl rfl (Nat.le_of_ble_eq_true rfl) (ao_hR (by omega) (by decide)) ?_
      refine ao_iconst (v := 0) dX2_write_69 (by decide) ?_
      cases h
      exact ao_ireturn dX2_write_70 rfl rfl ⟨rfl, rfl⟩
    · intro r0 r1 x2 x3 s0 M ρ y h
      replace h := ao_ifF h (by decide)
      replace h := ao_ifF h (by decide)
      replace h := ao_ifT h rfl
      refine ao_if_ne 108 dX2_write_103 (by decide) (fun c24 => ?_) (fun c24 => ?_)
      · replace h := ao_ifF h c24
        exact ih.2.2.2.1 r0 r1 x2 x3 M ρ _ h
      · replace h := ao_ifT h c24
        refine ao_iconst (v := 1) dX2_write_106 (by decide) ?_
        cases h
        exact ao_ireturn dX2_write_107 rfl rfl ⟨rfl, rfl⟩
    · intro r0 r1 x2 x3 M ρ y h
      replace h := ao_ifF h (by decide)
      replace h := ao_ifF h (by decide)
      replace h := ao_ifF h (by decide)
      replace h := ao_ifT h rfl
      refine ao_aload_n 1 dX2_write_108 rfl rfl ?_
      obtain ⟨hk25, h⟩ := ao_some h
      obtain ⟨p26, hp26, h⟩ := ao_bind h
      refine an_callVr r1 7 (q := (RX7, TX7, 20)) [] (aX7_innermost (d - 1) (by omega) _ r1 M ρ hp26) dX2_write_109 lc_X2_202 li_X7_innermost ls_X7_innermost rfl hk25 rfl rfl (Nat.le_of_ble_eq_true rfl) (ao_hR (by omega) (by decide)) ?_
      refine ao_iload_n 2 dX2_write_112 rfl rfl ?_
      obtain ⟨hk27, h⟩ := ao_some h
      obtain ⟨p28, hp28, h⟩ := ao_bind h
      refine an_callVi p26.1 3 (q := (RX3, TX3, 12)) [.int x2] (aX3_wrote (d - 1) (by omega) p26.1 x2 p26.2 ρ hp28) dX2_write_113 lc_X2_217 li_X3_wrote ls_X3_wrote rfl hk27 rfl rfl (Nat.le_of_ble_eq_true rfl) (ao_hR (by omega) (by decide)) ?_
      refine ao_if_ne 136 dX2_write_116 (by decide) (fun c29 => ?_) (fun c29 => ?_)
      · replace h := ao_ifF h c29
        exact ih.2.2.2.2 r0 r1 x2 x3 p28.2 ρ _ h
      · replace h := ao_ifT h c29
        refine ao_aload_n 1 dX2_write_119 rfl rfl ?_
        obtain ⟨p30, hp30, h⟩ := ao_bind h
        refine an_callVr r1 7 (q := (RX7, TX7, 20)) [] (aX7_innermost (d - 1) (by omega) _ r1 p28.2 ρ hp30) dX2_write_120 lc_X2_202 li_X7_innermost ls_X7_innermost rfl hk25 rfl rfl (Nat.le_of_ble_eq_true rfl) (ao_hR (by omega) (by decide)) ?_
        refine ao_iload_n 2 dX2_write_123 rfl rfl ?_
        refine ao_aload_n 0 dX2_write_124 rfl rfl ?_
        obtain ⟨hk31, h⟩ := ao_some h
        obtain ⟨j32, hj32, h⟩ := ao_bind h
        refine an_getR r0 2 0 (q := (RX2, TX2, 7)) dX2_write_125 rfl hk31 (Nat.le_of_ble_eq_true rfl) rfl lf_X2_12 hj32 ?_
        obtain ⟨hk33, h⟩ := ao_some h
        obtain ⟨j34, hj34, h⟩ := ao_bind h
        refine an_getR j32 5 0 (q := (RX5, TX5, 11)) dX2_write_128 rfl hk33 (Nat.le_of_ble_eq_true rfl) rfl lf_X2_188 hj34 ?_
        refine ao_iload_n 2 dX2_write_131 rfl rfl ?_
        obtain ⟨hk35, h⟩ := ao_some h
        obtain ⟨hb36, h⟩ := ao_some h
        refine an_iaload j34 dX2_write_132 hk35 hb36 ?_
        obtain ⟨hk37, h⟩ := ao_some h
        obtain ⟨p38, hp38, h⟩ := ao_bind h
        refine an_callVv p30.1 3 (q := (RX3, TX3, 12)) [.int x2, .int (p30.2 j34 x2.toNatClampNeg)] (aX3_addWrite (d - 1) (by omega) p30.1 x2 (p30.2 j34 x2.toNatClampNeg) p30.2 ρ hp38) dX2_write_133 lc_X2_244 li_X3_addWrite ls_X3_addWrite rfl hk37 rfl rfl (Nat.le_of_ble_eq_true rfl) (ao_hR (by omega) (by decide)) ?_
        exact ih.2.2.2.2 r0 r1 x2 x3 p38 ρ _ h
    · intro r0 r1 x2 x3 M ρ y h
      replace h := ao_ifF h (by decide)
      replace h := ao_ifF h (by decide)
      replace h := ao_ifF h (by decide)
      replace h := ao_ifF h (by decide)
      replace h := ao_ifT h rfl
      refine ao_aload_n 0 dX2_write_136 rfl rfl ?_
      obtain ⟨hk39, h⟩ := ao_some h
      obtain ⟨j40, hj40, h⟩ := ao_bind h
      refine an_getR r0 2 0 (q := (RX2, TX2, 7)) dX2_write_137 rfl hk39 (Nat.le_of_ble_eq_true rfl) rfl lf_X2_12 hj40 ?_
      obtain ⟨hk41, h⟩ := ao_some h
      obtain ⟨j42, hj42, h⟩ := ao_bind h
      refine an_getR j40 5 2 (q := (RX5, TX5, 11)) dX2_write_140 rfl hk41 (Nat.le_of_ble_eq_true rfl) rfl lf_X2_245 hj42 ?_
      refine ao_iload_n 2 dX2_write_143 rfl rfl ?_
      refine ao_aload_n 1 dX2_write_144 rfl rfl ?_
      obtain ⟨hk43, h⟩ := ao_some h
      refine an_getI r1 7 0 (q := (RX7, TX7, 20)) dX2_write_145 rfl hk43 (Nat.le_of_ble_eq_true rfl) rfl lf_X2_171 ?_
      obtain ⟨hk44, h⟩ := ao_some h
      obtain ⟨hb45, h⟩ := ao_some h
      refine an_iastore j42 dX2_write_148 hk44 hb45 (fun M46 hM46 => ?_)
      replace h := ao_letD h hM46
      refine ao_aload_n 0 dX2_write_149 rfl rfl ?_
      refine an_getR r0 2 0 (q := (RX2, TX2, 7)) dX2_write_150 rfl hk39 (Nat.le_of_ble_eq_true rfl) rfl lf_X2_12 hj40 ?_
      obtain ⟨j47, hj47, h⟩ := ao_bind h
      refine an_getR j40 5 0 (q := (RX5, TX5, 11)) dX2_write_153 rfl hk41 (Nat.le_of_ble_eq_true rfl) rfl lf_X2_188 hj47 ?_
      refine ao_iload_n 2 dX2_write_156 rfl rfl ?_
      refine ao_iload_n 3 dX2_write_157 rfl rfl ?_
      obtain ⟨hk48, h⟩ := ao_some h
      obtain ⟨hb49, h⟩ := ao_some h
      refine an_iastore j47 dX2_write_158 hk48 hb49 (fun M50 hM50 => ?_)
      replace h := ao_letD h hM50
      refine ao_iconst (v := 0) dX2_write_159 (by decide) ?_
      cases h
      exact ao_ireturn dX2_write_160 rfl rfl ⟨rfl, rfl⟩
theorem me_X2_write (n : Nat) (r0 : Nat) (r1 : Nat) (x2 : Int32) (x3 : Int32) (M : ao_M) (ρ : ao_H) {y : Int32 × ao_S} (h : gX2_write n r0 r1 x2 x3 M ρ = some y) : ao_le ρ y.2.2 := (mX2_write n).1 r0 r1 x2 x3 M ρ y h
set_option maxRecDepth 100000 in
set_option maxHeartbeats 4000000 in
theorem aX2_write {Γ : ao_C} (d : Nat) (hd : 6 ≤ d) (n : Nat) (r0 : Nat) (r1 : Nat) (x2 : Int32) (x3 : Int32) (M : ao_M) (ρ : ao_H) {y : Int32 × ao_S} (h : gX2_write n r0 r1 x2 x3 M ρ = some y) : ao_A Γ uX2_write d (ao_dc ρ y.2.2) (ao_ds ρ y.2.2) [.ref (Γ.2.2.2 + r0), .ref (Γ.2.2.2 + r1), .int x2, .int x3] (M, ρ) (ao_QI y) := by
  refine ao_of (by decide) (ao_cat1 (Nat.le_of_ble_eq_true rfl)) (Nat.le_of_ble_eq_true rfl) ?_
  show ao_W Γ uX2_write (ao_rm d (ao_dc ρ y.2.2) (ao_ds ρ y.2.2)) (ao_Q Γ (ao_QI y) (ao_dc ρ y.2.2) (ao_ds ρ y.2.2)) (ao_dc ρ y.2.2) (ao_ds ρ y.2.2) 0 [some (.ref (Γ.2.2.2 + r0)), some (.ref (Γ.2.2.2 + r1)), some (.int x2), some (.int x3)] [] (M, ρ)
  exact (wX2_write d hd _ _ n).1 r0 r1 x2 x3 M ρ y h

abbrev uX2_closeLevel : ao_Mi := (yX2_closeLevel, cX2_closeLevel, 3, (some .int), [])
def fX2_closeLevel : Nat → Nat → Nat → Nat → Int32 → Int32 →  ao_M → ao_H → Option (Int32 × ao_S)
  | 0, _, _, _, _, _, _, _ => none
  | n + 1, pc, r0, r1, x2, s0, M, ρ =>
    if pc = 0 then
      if ρ.2.1 r1 = 17 then
      if 0 < (M r1 8) then
        (ρ.1 r1 1).bind fun j3 =>
        (gX7_innermost n r1 M ρ).bind fun p4 =>
        if ρ.2.1 p4.1 = 13 then
        if ρ.2.1 j3 = 11 then
        (gX1_secondAt j3 (p4.2 p4.1 8) p4.2 ρ).bind fun p7 =>
        ao_let p7.1 fun v8 =>
        if (p7.2 r1 8) ≤ (1 : Int32) then
          if ρ.2.1 r0 = 12 then
          (gX2_mayEnd n r0 r1 p7.2 ρ).bind fun p11 =>
          fX2_closeLevel n 49 r0 r1 v8 p11.1 p11.2.1 p11.2.2
          else none
        else
          if ρ.2.1 r0 = 12 then
          (gX2_joinAround n r0 r1 p7.2 ρ).bind fun p13 =>
          ao_let (ao_u p13 r1 3 v8) fun M14 =>
          some ((-1 : Int32), M14, ρ)
          else none
        else none
        else none
      else
        some ((-1 : Int32), M, ρ)
      else none
    else if pc = 49 then
      if s0 = 0 then
        some ((1 : Int32), M, ρ)
      else
        if ρ.2.1 r0 = 12 then
        (gX2_finish n r0 r1 M ρ).bind fun p17 =>
        fX2_closeLevel n 59 r0 r1 x2 0 p17.1 p17.2
        else none
    else if pc = 59 then
      if ρ.2.1 r1 = 17 then
      ao_let (ao_u M r1 3 x2) fun M19 =>
      some ((0 : Int32), M19, ρ)
      else none
    else none
def gX2_closeLevel (n : Nat) (r0 : Nat) (r1 : Nat) (M : ao_M) (ρ : ao_H) : Option (Int32 × ao_S) := fX2_closeLevel n 0 r0 r1 0 0 M ρ
set_option maxRecDepth 100000 in
set_option maxHeartbeats 4000000 in
theorem mX2_closeLevel : ∀ n : Nat, (∀ (r0 : Nat) (r1 : Nat) (M : ao_M) (ρ : ao_H) (y : Int32 × ao_S), fX2_closeLevel n 0 r0 r1 0 0 M ρ = some y → ao_le ρ y.2.2) ∧ (∀ (r0 : Nat) (r1 : Nat) (x2 : Int32) (s0 : Int32) (M : ao_M) (ρ : ao_H) (y : Int32 × ao_S), fX2_closeLevel n 49 r0 r1 x2 s0 M ρ = some y → ao_le ρ y.2.2) ∧ (∀ (r0 : Nat) (r1 : Nat) (x2 : Int32) (M : ao_M) (ρ : ao_H) (y : Int32 × ao_S), fX2_closeLevel n 59 r0 r1 x2 0 M ρ = some y → ao_le ρ y.2.2) := by
  intro n
  induction n with
  | zero => exact ⟨fun _ _ _ _ _ h => ao_no h, fun _ _ _ _ _ _ _ h => ao_no h, fun _ _ _ _ _ _ h => ao_no h⟩
  | succ n ih =>
    refine ⟨?_, ?_, ?_⟩
    · intro r0 r1 M ρ y h
      replace h := ao_ifT h rfl
      obtain ⟨-, h⟩ := ao_some h
      rcases ao_ifC h with h | h
      · obtain ⟨j3, hj3, h⟩ := ao_bind h
        obtain ⟨p4, hp4, h⟩ := ao_bind h
        obtain ⟨-, h⟩ := ao_some h
        obtain ⟨-, h⟩ := ao_some h
        obtain ⟨p7, hp7, h⟩ := ao_bind h
        replace h := ao_letD h rfl
        generalize p7.1 = v8 at h
        rcases ao_ifC h with h | h
        · obtain ⟨-, h⟩ := ao_some h
          obtain ⟨p11, hp11, h⟩ := ao_bind h
          exact ao_le_tr (me_X2_mayEnd n r0 r1 p7.2 ρ hp11) (ih.2.1 r0 r1 v8 p11.1 p11.2.1 p11.2.2 _ h)
        · obtain ⟨-, h⟩ := ao_some h
          obtain ⟨p13, hp13, h⟩ := ao_bind h
          replace h := ao_letD h rfl
          generalize (ao_u p13 r1 3 v8) = M14 at h
          cases h
          exact ao_le_rf _
      · cases h
        exact ao_le_rf _
    · intro r0 r1 x2 s0 M ρ y h
      replace h := ao_ifF h (by decide)
      replace h := ao_ifT h rfl
      rcases ao_ifC h with h | h
      · cases h
        exact ao_le_rf _
      · obtain ⟨-, h⟩ := ao_some h
        obtain ⟨p17, hp17, h⟩ := ao_bind h
        exact ao_le_tr (me_X2_finish n r0 r1 M ρ hp17) (ih.2.2 r0 r1 x2 p17.1 p17.2 _ h)
    · intro r0 r1 x2 M ρ y h
      replace h := ao_ifF h (by decide)
      replace h := ao_ifF h (by decide)
      replace h := ao_ifT h rfl
      obtain ⟨-, h⟩ := ao_some h
      replace h := ao_letD h rfl
      generalize (ao_u M r1 3 x2) = M19 at h
      cases h
      exact ao_le_rf _
set_option maxRecDepth 100000 in
set_option maxHeartbeats 4000000 in
theorem wX2_closeLevel {Γ : ao_C} (d : Nat) (hd : 6 ≤ d) (MC MS : Nat) : ∀ n : Nat, (∀ (r0 : Nat) (r1 : Nat) (M : ao_M) (ρ : ao_H) (y : Int32 × ao_S), fX2_closeLevel n 0 r0 r1 0 0 M ρ = some y → ao_W Γ uX2_closeLevel (ao_rm d MC MS) (ao_Q Γ (ao_QI y) MC MS) (ao_dc ρ y.2.2) (ao_ds ρ y.2.2) 0 [some (.ref (Γ.2.2.2 + r0)), some (.ref (Γ.2.2.2 + r1)), none] [] (M, ρ)) ∧ (∀ (r0 : Nat) (r1 : Nat) (x2 : Int32) (s0 : Int32) (M : ao_M) (ρ : ao_H) (y : Int32 × ao_S), fX2_closeLevel n 49 r0 r1 x2 s0 M ρ = some y → ao_W Γ uX2_closeLevel (ao_rm d MC MS) (ao_Q Γ (ao_QI y) MC MS) (ao_dc ρ y.2.2) (ao_ds ρ y.2.2) 49 [some (.ref (Γ.2.2.2 + r0)), some (.ref (Γ.2.2.2 + r1)), some (.int x2)] [.int s0] (M, ρ)) ∧ (∀ (r0 : Nat) (r1 : Nat) (x2 : Int32) (M : ao_M) (ρ : ao_H) (y : Int32 × ao_S), fX2_closeLevel n 59 r0 r1 x2 0 M ρ = some y → ao_W Γ uX2_closeLevel (ao_rm d MC MS) (ao_Q Γ (ao_QI y) MC MS) (ao_dc ρ y.2.2) (ao_ds ρ y.2.2) 59 [some (.ref (Γ.2.2.2 + r0)), some (.ref (Γ.2.2.2 + r1)), some (.int x2)] [] (M, ρ)) := by
  intro n
  induction n with
  | zero => exact ⟨fun _ _ _ _ _ h => ao_no h, fun _ _ _ _ _ _ _ h => ao_no h, fun _ _ _ _ _ _ h => ao_no h⟩
  | succ n ih =>
    refine ⟨?_, ?_, ?_⟩
    · intro r0 r1 M ρ y h
      replace h := ao_ifT h rfl
      refine ao_aload_n 1 dX2_closeLevel_0 rfl rfl ?_
      obtain ⟨hk1, h⟩ := ao_some h
      refine an_getI r1 7 8 (q := (RX7, TX7, 20)) dX2_closeLevel_1 rfl hk1 (Nat.le_of_ble_eq_true rfl) rfl lf_X2_165 ?_
      refine ao_if_gt 9 dX2_closeLevel_4 (by decide) (fun c2 => ?_) (fun c2 => ?_)
      · replace h := ao_ifT h c2
        refine ao_aload_n 1 dX2_closeLevel_9 rfl rfl ?_
        obtain ⟨j3, hj3, h⟩ := ao_bind h
        refine an_getR r1 7 1 (q := (RX7, TX7, 20)) dX2_closeLevel_10 rfl hk1 (Nat.le_of_ble_eq_true rfl) rfl lf_X2_88 hj3 ?_
        refine ao_aload_n 1 dX2_closeLevel_13 rfl rfl ?_
        obtain ⟨p4, hp4, h⟩ := ao_bind h
        refine an_callVr r1 7 (q := (RX7, TX7, 20)) [] (aX7_innermost (d - 1) (by omega) _ r1 M ρ hp4) dX2_closeLevel_14 lc_X2_202 li_X7_innermost ls_X7_innermost rfl hk1 rfl rfl (Nat.le_of_ble_eq_true rfl) (ao_hR (by omega) (by decide)) ?_
        obtain ⟨hk5, h⟩ := ao_some h
        refine an_getI p4.1 3 8 (q := (RX3, TX3, 12)) dX2_closeLevel_17 rfl hk5 (Nat.le_of_ble_eq_true rfl) rfl lf_X2_292 ?_
        obtain ⟨hk6, h⟩ := ao_some h
        obtain ⟨p7, hp7, h⟩ := ao_bind h
        refine an_callVi j3 1 (q := (RX1, TX1, 6)) [.int (p4.2 p4.1 8)] (aX1_secondAt (d - 1) (by omega) j3 (p4.2 p4.1 8) p4.2 ρ hp7) dX2_closeLevel_20 lc_X2_323 li_X1_secondAt ls_X1_secondAt rfl hk6 rfl rfl (Nat.le_of_ble_eq_true rfl) (ao_hR (by omega) (by decide)) ?_
        refine an_topi (fun v8 hv8 => ?_)
        replace h := ao_letD h hv8
        refine ao_istore_n 2 (lo' := [some (.ref (Γ.2.2.2 + r0)), some (.ref (Γ.2.2.2 + r1)), some (.int v8)]) dX2_closeLevel_23 rfl (Nat.le_of_ble_eq_true rfl) rfl ?_
        refine ao_aload_n 1 dX2_closeLevel_24 rfl rfl ?_
        refine an_getI r1 7 8 (q := (RX7, TX7, 20)) dX2_closeLevel_25 rfl hk1 (Nat.le_of_ble_eq_true rfl) rfl lf_X2_165 ?_
        refine ao_iconst (v := 1) dX2_closeLevel_28 (by decide) ?_
        refine ao_icmp_le 44 dX2_closeLevel_29 (by decide) (fun c9 => ?_) (fun c9 => ?_)
        · replace h := ao_ifT h c9
          refine ao_aload_n 0 dX2_closeLevel_44 rfl rfl ?_
          refine ao_aload_n 1 dX2_closeLevel_45 rfl rfl ?_
          obtain ⟨hk10, h⟩ := ao_some h
          obtain ⟨p11, hp11, h⟩ := ao_bind h
          refine ba_callVi r0 2 (q := (RX2, TX2, 7)) [.ref (Γ.2.2.2 + r1)] (aX2_mayEnd (d - 1) (by omega) n r0 r1 p7.2 ρ hp11) dX2_closeLevel_46 lc_X2_330 li_X2_mayEnd ls_X2_mayEnd rfl hk10 rfl rfl (Nat.le_of_ble_eq_true rfl) (ao_hR (by omega) (by decide)) (ao_leC (me_X2_mayEnd n r0 r1 p7.2 ρ hp11) ((mX2_closeLevel n).2.1 r0 r1 v8 p11.1 p11.2.1 p11.2.2 _ h)) (ao_leS (me_X2_mayEnd n r0 r1 p7.2 ρ hp11) ((mX2_closeLevel n).2.1 r0 r1 v8 p11.1 p11.2.1 p11.2.2 _ h)) ?_
          exact ih.2.1 r0 r1 v8 p11.1 p11.2.1 p11.2.2 _ h
        · replace h := ao_ifF h c9
          refine ao_aload_n 0 dX2_closeLevel_32 rfl rfl ?_
          refine ao_aload_n 1 dX2_closeLevel_33 rfl rfl ?_
          obtain ⟨hk12, h⟩ := ao_some h
          obtain ⟨p13, hp13, h⟩ := ao_bind h
          refine an_callVv r0 2 (q := (RX2, TX2, 7)) [.ref (Γ.2.2.2 + r1)] (aX2_joinAround (d - 1) (by omega) _ r0 r1 p7.2 ρ hp13) dX2_closeLevel_34 lc_X2_326 li_X2_joinAround ls_X2_joinAround rfl hk12 rfl rfl (Nat.le_of_ble_eq_true rfl) (ao_hR (by omega) (by decide)) ?_
          refine ao_aload_n 1 dX2_closeLevel_37 rfl rfl ?_
          refine ao_iload_n 2 dX2_closeLevel_38 rfl rfl ?_
          refine an_putI r1 7 3 (q := (RX7, TX7, 20)) dX2_closeLevel_39 rfl hk1 (Nat.le_of_ble_eq_true rfl) lf_X2_92 rfl rfl rfl rfl (fun M14 hM14 => ?_)
          replace h := ao_letD h hM14
          refine ao_iconst (v := (-1)) dX2_closeLevel_42 (by decide) ?_
          cases h
          exact ao_ireturn dX2_closeLevel_43 rfl rfl ⟨rfl, rfl⟩
      · replace h := ao_ifF h c2
        refine ao_iconst (v := (-1)) dX2_closeLevel_7 (by decide) ?_
        cases h
        exact ao_ireturn dX2_closeLevel_8 rfl rfl ⟨rfl, rfl⟩
    · intro r0 r1 x2 s0 M ρ y h
      replace h := ao_ifF h (by decide)
      replace h := ao_ifT h rfl
      refine ao_if_ne 54 dX2_closeLevel_49 (by decide) (fun c15 => ?_) (fun c15 => ?_)
      · replace h := ao_ifF h c15
        refine ao_aload_n 0 dX2_closeLevel_54 rfl rfl ?_
        refine ao_aload_n 1 dX2_closeLevel_55 rfl rfl ?_
        obtain ⟨hk16, h⟩ := ao_some h
        obtain ⟨p17, hp17, h⟩ := ao_bind h
        refine ba_callVv r0 2 (q := (RX2, TX2, 7)) [.ref (Γ.2.2.2 + r1)] (aX2_finish (d - 1) (by omega) n r0 r1 M ρ hp17) dX2_closeLevel_56 lc_X2_333 li_X2_finish ls_X2_finish rfl hk16 rfl rfl (Nat.le_of_ble_eq_true rfl) (ao_hR (by omega) (by decide)) (ao_leC (me_X2_finish n r0 r1 M ρ hp17) ((mX2_closeLevel n).2.2 r0 r1 x2 p17.1 p17.2 _ h)) (ao_leS (me_X2_finish n r0 r1 M ρ hp17) ((mX2_closeLevel n).2.2 r0 r1 x2 p17.1 p17.2 _ h)) ?_
        exact ih.2.2 r0 r1 x2 p17.1 p17.2 _ h
      · replace h := ao_ifT h c15
        refine ao_iconst (v := 1) dX2_closeLevel_52 (by decide) ?_
        cases h
        exact ao_ireturn dX2_closeLevel_53 rfl rfl ⟨rfl, rfl⟩
    · intro r0 r1 x2 M ρ y h
      replace h := ao_ifF h (by decide)
      replace h := ao_ifF h (by decide)
      replace h := ao_ifT h rfl
      refine ao_aload_n 1 dX2_closeLevel_59 rfl rfl ?_
      refine ao_iload_n 2 dX2_closeLevel_60 rfl rfl ?_
      obtain ⟨hk18, h⟩ := ao_some h
      refine an_putI r1 7 3 (q := (RX7, TX7, 20)) dX2_closeLevel_61 rfl hk18 (Nat.le_of_ble_eq_true rfl) lf_X2_92 rfl rfl rfl rfl (fun M19 hM19 => ?_)
      replace h := ao_letD h hM19
      refine ao_iconst (v := 0) dX2_closeLevel_64 (by decide) ?_
      cases h
      exact ao_ireturn dX2_closeLevel_65 rfl rfl ⟨rfl, rfl⟩
theorem me_X2_closeLevel (n : Nat) (r0 : Nat) (r1 : Nat) (M : ao_M) (ρ : ao_H) {y : Int32 × ao_S} (h : gX2_closeLevel n r0 r1 M ρ = some y) : ao_le ρ y.2.2 := (mX2_closeLevel n).1 r0 r1 M ρ y h
set_option maxRecDepth 100000 in
set_option maxHeartbeats 4000000 in
theorem aX2_closeLevel {Γ : ao_C} (d : Nat) (hd : 6 ≤ d) (n : Nat) (r0 : Nat) (r1 : Nat) (M : ao_M) (ρ : ao_H) {y : Int32 × ao_S} (h : gX2_closeLevel n r0 r1 M ρ = some y) : ao_A Γ uX2_closeLevel d (ao_dc ρ y.2.2) (ao_ds ρ y.2.2) [.ref (Γ.2.2.2 + r0), .ref (Γ.2.2.2 + r1)] (M, ρ) (ao_QI y) := by
  refine ao_of (by decide) (ao_cat1 (Nat.le_of_ble_eq_true rfl)) (Nat.le_of_ble_eq_true rfl) ?_
  show ao_W Γ uX2_closeLevel (ao_rm d (ao_dc ρ y.2.2) (ao_ds ρ y.2.2)) (ao_Q Γ (ao_QI y) (ao_dc ρ y.2.2) (ao_ds ρ y.2.2)) (ao_dc ρ y.2.2) (ao_ds ρ y.2.2) 0 [some (.ref (Γ.2.2.2 + r0)), some (.ref (Γ.2.2.2 + r1)), none] [] (M, ρ)
  exact (wX2_closeLevel d hd _ _ n).1 r0 r1 M ρ y h
