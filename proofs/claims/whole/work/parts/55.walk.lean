abbrev uX12_looks : ao_Mi := (yX12_looks, cX12_looks, 4, (some .boolean), [])
def fX12_looks : Nat → Nat → Nat → Int32 → Int32 → Int32 → Int32 → Nat →  ao_M → ao_H → Option (Int32 × ao_S)
  | 0, _, _, _, _, _, _, _, _, _ => none
  | n + 1, pc, r0, x1, x2, x3, s0, q1, M, ρ =>
    if pc = 0 then
      if ρ.2.1 r0 = 22 then
      (gX12_writtenLevel n r0 x1 x2 M ρ).bind fun p2 =>
      ao_let p2.1 fun v3 =>
      if v3 < 0 then
        fX12_looks n 36 r0 x1 x2 v3 0 0 p2.2 ρ
      else
        (gX12_isEager n r0 p2.2 ρ).bind fun p5 =>
        if p5.1 = 0 then
          (ρ.1 r0 60).bind fun j7 =>
          (gX12_cell r0 x1 v3 x2 p5.2 ρ).bind fun p8 =>
          if ρ.2.1 j7 = 0 then
          if ¬ (p8.1 < 0 ∨ ρ.2.2.1 j7 ≤ p8.1.toNatClampNeg) then
          ao_let (ao_u p8.2 r0 77 (p8.2 j7 p8.1.toNatClampNeg)) fun M11 =>
          some ((1 : Int32), M11, ρ)
          else none
          else none
        else
          fX12_looks n 36 r0 x1 x2 v3 0 0 p5.2 ρ
      else none
    else if pc = 36 then
      if ρ.2.1 r0 = 22 then
      (gX12_isEager n r0 M ρ).bind fun p13 =>
      if p13.1 = 0 then
        fX12_looks n 65 r0 x1 x2 x3 0 0 p13.2 ρ
      else
        (ρ.1 r0 19).bind fun j15 =>
        if ρ.2.1 j15 = 0 then
        if ¬ (x2 < 0 ∨ ρ.2.2.1 j15 ≤ x2.toNatClampNeg) then
        if (p13.2 j15 x2.toNatClampNeg) = x1 then
          (ρ.1 r0 17).bind fun j19 =>
          if ρ.2.1 j19 = 0 then
          if ¬ (x2 < 0 ∨ ρ.2.2.1 j19 ≤ x2.toNatClampNeg) then
          ao_let (ao_u p13.2 r0 77 (p13.2 j19 x2.toNatClampNeg)) fun M22 =>
          some ((1 : Int32), M22, ρ)
          else none
          else none
        else
          fX12_looks n 65 r0 x1 x2 x3 0 0 p13.2 ρ
        else none
        else none
      else none
    else if pc = 65 then
      if ρ.2.1 r0 = 22 then
      ao_let (M r0 27) fun v24 =>
      if v24 = (0 : Int32) then
        (ρ.1 r0 18).bind fun j26 =>
        if ρ.2.1 j26 = 0 then
        if ¬ (x2 < 0 ∨ ρ.2.2.1 j26 ≤ x2.toNatClampNeg) then
        (ρ.1 r0 38).bind fun j29 =>
        if ρ.2.1 j29 = 0 then
        if ¬ (x1 < 0 ∨ ρ.2.2.1 j29 ≤ x1.toNatClampNeg) then
        if (M j26 x2.toNatClampNeg) ≤ (M j29 x1.toNatClampNeg) then
          fX12_looks n 177 r0 x1 x2 x3 0 0 M ρ
        else
          (gX12_conflict n r0 x1 M ρ).bind fun p33 =>
          fX12_looks n 120 r0 x1 x2 x3 0 0 p33.1 p33.2
        else none
        else none
        else none
        else none
      else
        if v24 = (1 : Int32) then
          (ρ.1 r0 38).bind fun j35 =>
          if ρ.2.1 j35 = 0 then
          if ¬ (x1 < 0 ∨ ρ.2.2.1 j35 ≤ x1.toNatClampNeg) then
          if (M r0 26) = (M j35 x1.toNatClampNeg) then
            fX12_looks n 177 r0 x1 x2 x3 0 0 M ρ
          else
            (gX12_goesOn n r0 x1 M ρ).bind fun p39 =>
            fX12_looks n 140 r0 x1 x2 x3 p39.1 0 p39.2.1 p39.2.2
          else none
          else none
        else
          if v24 = (3 : Int32) then
            (gX12_wins n r0 x1 x2 M ρ).bind fun p41 =>
            fX12_looks n 164 r0 x1 x2 x3 p41.1 0 p41.2.1 p41.2.2
          else
            fX12_looks n 177 r0 x1 x2 x3 0 0 M ρ
      else none
    else if pc = 120 then
      some ((0 : Int32), M, ρ)
    else if pc = 140 then
      if s0 = 0 then
        some ((0 : Int32), M, ρ)
      else
        if ρ.2.1 r0 = 22 then
        (ρ.1 r0 38).bind fun j45 =>
        if ρ.2.1 j45 = 0 then
        if ¬ (x1 < 0 ∨ ρ.2.2.1 j45 ≤ x1.toNatClampNeg) then
        ao_let (ao_u M j45 x1.toNatClampNeg (M r0 26)) fun M48 =>
        fX12_looks n 177 r0 x1 x2 x3 0 0 M48 ρ
        else none
        else none
        else none
    else if pc = 164 then
      if s0 = 0 then
        some ((0 : Int32), M, ρ)
      else
        if ρ.2.1 r0 = 22 then
        (gX12_goesOn n r0 x1 M ρ).bind fun p51 =>
        fX12_looks n 172 r0 x1 x2 x3 p51.1 0 p51.2.1 p51.2.2
        else none
    else if pc = 172 then
      if s0 = 0 then
        some ((0 : Int32), M, ρ)
      else
        fX12_looks n 177 r0 x1 x2 x3 0 0 M ρ
    else if pc = 177 then
      if ρ.2.1 r0 = 22 then
      if (M r0 27) = (2 : Int32) then
        (ρ.1 r0 38).bind fun j58 =>
        if ρ.2.1 j58 = 0 then
        if ¬ (x1 < 0 ∨ ρ.2.2.1 j58 ≤ x1.toNatClampNeg) then
        (gX12_past n r0 x2 (M j58 x1.toNatClampNeg) M ρ).bind fun p61 =>
        fX12_looks n 206 r0 x1 x2 x3 p61.1 r0 p61.2 ρ
        else none
        else none
      else
        (ρ.1 r0 17).bind fun j55 =>
        if ρ.2.1 j55 = 0 then
        if ¬ (x2 < 0 ∨ ρ.2.2.1 j55 ≤ x2.toNatClampNeg) then
        fX12_looks n 206 r0 x1 x2 x3 (M j55 x2.toNatClampNeg) r0 M ρ
        else none
        else none
      else none
    else if pc = 206 then
      if ρ.2.1 q1 = 22 then
      ao_let (ao_u M q1 77 s0) fun M63 =>
      if ρ.2.1 r0 = 22 then
      (gX12_addRead r0 x1 x2 (M63 r0 77) M63 ρ).bind fun p65 =>
      some ((1 : Int32), p65, ρ)
      else none
      else none
    else none
def gX12_looks (n : Nat) (r0 : Nat) (x1 : Int32) (x2 : Int32) (M : ao_M) (ρ : ao_H) : Option (Int32 × ao_S) := fX12_looks n 0 r0 x1 x2 0 0 0 M ρ
set_option maxRecDepth 100000 in
set_option maxHeartbeats 4000000 in
theorem mX12_looks : ∀ n : Nat, (∀ (r0 : Nat) (x1 : Int32) (x2 : Int32) (M : ao_M) (ρ : ao_H) (y : Int32 × ao_S), fX12_looks n 0 r0 x1 x2 0 0 0 M ρ = some y → ao_le ρ y.2.2) ∧ (∀ (r0 : Nat) (x1 : Int32) (x2 : Int32) (x3 : Int32) (M : ao_M) (ρ : ao_H) (y : Int32 × ao_S), fX12_looks n 36 r0 x1 x2 x3 0 0 M ρ = some y → ao_le ρ y.2.2) ∧ (∀ (r0 : Nat) (x1 : Int32) (x2 : Int32) (x3 : Int32) (M : ao_M) (ρ : ao_H) (y : Int32 × ao_S), fX12_looks n 65 r0 x1 x2 x3 0 0 M ρ = some y → ao_le ρ y.2.2) ∧ (∀ (r0 : Nat) (x1 : Int32) (x2 : Int32) (x3 : Int32) (M : ao_M) (ρ : ao_H) (y : Int32 × ao_S), fX12_looks n 120 r0 x1 x2 x3 0 0 M ρ = some y → ao_le ρ y.2.2) ∧ (∀ (r0 : Nat) (x1 : Int32) (x2 : Int32) (x3 : Int32) (s0 : Int32) (M : ao_M) (ρ : ao_H) (y : Int32 × ao_S), fX12_looks n 140 r0 x1 x2 x3 s0 0 M ρ = some y → ao_le ρ y.2.2) ∧ (∀ (r0 : Nat) (x1 : Int32) (x2 : Int32) (x3 : Int32) (s0 : Int32) (M : ao_M) (ρ : ao_H) (y : Int32 × ao_S), fX12_looks n 164 r0 x1 x2 x3 s0 0 M ρ = some y → ao_le ρ y.2.2) ∧ (∀ (r0 : Nat) (x1 : Int32) (x2 : Int32) (x3 : Int32) (s0 : Int32) (M : ao_M) (ρ : ao_H) (y : Int32 × ao_S), fX12_looks n 172 r0 x1 x2 x3 s0 0 M ρ = some y → ao_le ρ y.2.2) ∧ (∀ (r0 : Nat) (x1 : Int32) (x2 : Int32) (x3 : Int32) (M : ao_M) (ρ : ao_H) (y : Int32 × ao_S), fX12_looks n 177 r0 x1 x2 x3 0 0 M ρ = some y → ao_le ρ y.2.2) ∧ (∀ (r0 : Nat) (x1 : Int32) (x2 : Int32) (x3 : Int32) (s0 : Int32) (q1 : Nat) (M : ao_M) (ρ : ao_H) (y : Int32 × ao_S), fX12_looks n 206 r0 x1 x2 x3 s0 q1 M ρ = some y → ao_le ρ y.2.2) := by
  intro n
  induction n with
  | zero => exact ⟨fun _ _ _ _ _ _ h => ao_no h, fun _ _ _ _ _ _ _ h => ao_no h, fun _ _ _ _ _ _ _ h => ao_no h, fun _ _ _ _ _ _ _ h => ao_no h, fun _ _ _ _ _ _ _ _ h => ao_no h, fun _ _ _ _ _ _ _ _ h => ao_no h, fun _ _ _ _ _ _ _ _ h => ao_no h, fun _ _ _ _ _ _ _ h => ao_no h, fun _ _ _ _ _ _ _ _ _ h => ao_no h⟩
  | succ n ih =>
    refine ⟨?_, ?_, ?_, ?_, ?_, ?_, ?_, ?_, ?_⟩
    · intro r0 x1 x2 M ρ y h
      replace h := ao_ifT h rfl
      obtain ⟨-, h⟩ := ao_some h
      obtain ⟨p2, hp2, h⟩ := ao_bind h
      replace h := ao_letD h rfl
      generalize p2.1 = v3 at h
      rcases ao_ifC h with h | h
      · exact ih.2.1 r0 x1 x2 v3 p2.2 ρ _ h
      · obtain ⟨p5, hp5, h⟩ := ao_bind h
        rcases ao_ifC h with h | h
        · obtain ⟨j7, hj7, h⟩ := ao_bind h
          obtain ⟨p8, hp8, h⟩ := ao_bind h
          obtain ⟨-, h⟩ := ao_some h
          obtain ⟨-, h⟩ := ao_some h
          replace h := ao_letD h rfl
          generalize (ao_u p8.2 r0 77 (p8.2 j7 p8.1.toNatClampNeg)) = M11 at h
          cases h
          exact ao_le_rf _
        · exact ih.2.1 r0 x1 x2 v3 p5.2 ρ _ h
    · intro r0 x1 x2 x3 M ρ y h
      replace h := ao_ifF h (by decide)
      replace h := ao_ifT h rfl
      obtain ⟨-, h⟩ := ao_some h
      obtain ⟨p13, hp13, h⟩ := ao_bind h
      rcases ao_ifC h with h | h
      · exact ih.2.2.1 r0 x1 x2 x3 p13.2 ρ _ h
      · obtain ⟨j15, hj15, h⟩ := ao_bind h
        obtain ⟨-, h⟩ := ao_some h
        obtain ⟨-, h⟩ := ao_some h
        rcases ao_ifC h with h | h
        · obtain ⟨j19, hj19, h⟩ := ao_bind h
          obtain ⟨-, h⟩ := ao_some h
          obtain ⟨-, h⟩ := ao_some h
          replace h := ao_letD h rfl
          generalize (ao_u p13.2 r0 77 (p13.2 j19 x2.toNatClampNeg)) = M22 at h
          cases h
          exact ao_le_rf _
        · exact ih.2.2.1 r0 x1 x2 x3 p13.2 ρ _ h
    · intro r0 x1 x2 x3 M ρ y h
      replace h := ao_ifF h (by decide)
      replace h := ao_ifF h (by decide)
      replace h := ao_ifT h rfl
      obtain ⟨-, h⟩ := ao_some h
      replace h := ao_letD h rfl
      generalize (M r0 27) = v24 at h
      rcases ao_ifC h with h | h
      · obtain ⟨j26, hj26, h⟩ := ao_bind h
        obtain ⟨-, h⟩ := ao_some h
        obtain ⟨-, h⟩ := ao_some h
        obtain ⟨j29, hj29, h⟩ := ao_bind h
        obtain ⟨-, h⟩ := ao_some h
        obtain ⟨-, h⟩ := ao_some h
        rcases ao_ifC h with h | h
        · exact ih.2.2.2.2.2.2.2.1 r0 x1 x2 x3 M ρ _ h
        · obtain ⟨p33, hp33, h⟩ := ao_bind h
          exact ao_le_tr (me_X12_conflict n r0 x1 M ρ hp33) (ih.2.2.2.1 r0 x1 x2 x3 p33.1 p33.2 _ h)
      · rcases ao_ifC h with h | h
        · obtain ⟨j35, hj35, h⟩ := ao_bind h
          obtain ⟨-, h⟩ := ao_some h
          obtain ⟨-, h⟩ := ao_some h
          rcases ao_ifC h with h | h
          · exact ih.2.2.2.2.2.2.2.1 r0 x1 x2 x3 M ρ _ h
          · obtain ⟨p39, hp39, h⟩ := ao_bind h
            exact ao_le_tr (me_X12_goesOn n r0 x1 M ρ hp39) (ih.2.2.2.2.1 r0 x1 x2 x3 p39.1 p39.2.1 p39.2.2 _ h)
        · rcases ao_ifC h with h | h
          · obtain ⟨p41, hp41, h⟩ := ao_bind h
            exact ao_le_tr (me_X12_wins n r0 x1 x2 M ρ hp41) (ih.2.2.2.2.2.1 r0 x1 x2 x3 p41.1 p41.2.1 p41.2.2 _ h)
          · exact ih.2.2.2.2.2.2.2.1 r0 x1 x2 x3 M ρ _ h
    · intro r0 x1 x2 x3 M ρ y h
      replace h := ao_ifF h (by decide)
      replace h := ao_ifF h (by decide)
      replace h := ao_ifF h (by decide)
      replace h := ao_ifT h rfl
      cases h
      exact ao_le_rf _
    · intro r0 x1 x2 x3 s0 M ρ y h
      replace h := ao_ifF h (by decide)
      replace h := ao_ifF h (by decide)
      replace h := ao_ifF h (by decide)
      replace h := ao_ifF h (by decide)
      replace h := ao_ifT h rfl
      rcases ao_ifC h with h | h
      · cases h
        exact ao_le_rf _
      · obtain ⟨-, h⟩ := ao_some h
        obtain ⟨j45, hj45, h⟩ := ao_bind h
        obtain ⟨-, h⟩ := ao_some h
        obtain ⟨-, h⟩ := ao_some h
        replace h := ao_letD h rfl
        generalize (ao_u M j45 x1.toNatClampNeg (M r0 26)) = M48 at h
        exact ih.2.2.2.2.2.2.2.1 r0 x1 x2 x3 M48 ρ _ h
    · intro r0 x1 x2 x3 s0 M ρ y h
      replace h := ao_ifF h (by decide)
      replace h := ao_ifF h (by decide)
      replace h := ao_ifF h (by decide)
      replace h := ao_ifF h (by decide)
      replace h := ao_ifF h (by decide)
      replace h := ao_ifT h rfl
      rcases ao_ifC h with h | h
      · cases h
        exact ao_le_rf _
      · obtain ⟨-, h⟩ := ao_some h
        obtain ⟨p51, hp51, h⟩ := ao_bind h
        exact ao_le_tr (me_X12_goesOn n r0 x1 M ρ hp51) (ih.2.2.2.2.2.2.1 r0 x1 x2 x3 p51.1 p51.2.1 p51.2.2 _ h)
    · intro r0 x1 x2 x3 s0 M ρ y h
      replace h := ao_ifF h (by decide)
      replace h := ao_ifF h (by decide)
      replace h := ao_ifF h (by decide)
      replace h := ao_ifF h (by decide)
      replace h := ao_ifF h (by decide)
      replace h := ao_ifF h (by decide)
      replace h := ao_ifT h rfl
      rcases ao_ifC h with h | h
      · cases h
        exact ao_le_rf _
      · exact ih.2.2.2.2.2.2.2.1 r0 x1 x2 x3 M ρ _ h
    · intro r0 x1 x2 x3 M ρ y h
      replace h := ao_ifF h (by decide)
      replace h := ao_ifF h (by decide)
      replace h := ao_ifF h (by decide)
      replace h := ao_ifF h (by decide)
      replace h := ao_ifF h (by decide)
      replace h := ao_ifF h (by decide)
      replace h := ao_ifF h (by decide)
      replace h := ao_ifT h rfl
      obtain ⟨-, h⟩ := ao_some h
      rcases ao_ifC h with h | h
      · obtain ⟨j58, hj58, h⟩ := ao_bind h
        obtain ⟨-, h⟩ := ao_some h
        obtain ⟨-, h⟩ := ao_some h
        obtain ⟨p61, hp61, h⟩ := ao_bind h
        exact ih.2.2.2.2.2.2.2.2 r0 x1 x2 x3 p61.1 r0 p61.2 ρ _ h
      · obtain ⟨j55, hj55, h⟩ := ao_bind h
        obtain ⟨-, h⟩ := ao_some h
        obtain ⟨-, h⟩ := ao_some h
        exact ih.2.2.2.2.2.2.2.2 r0 x1 x2 x3 (M j55 x2.toNatClampNeg) r0 M ρ _ h
    · intro r0 x1 x2 x3 s0 q1 M ρ y h
      replace h := ao_ifF h (by decide)
      replace h := ao_ifF h (by decide)
      replace h := ao_ifF h (by decide)
      replace h := ao_ifF h (by decide)
      replace h := ao_ifF h (by decide)
      replace h := ao_ifF h (by decide)
      replace h := ao_ifF h (by decide)
      replace h := ao_ifF h (by decide)
      replace h := ao_ifT h rfl
      obtain ⟨-, h⟩ := ao_some h
      replace h := ao_letD h rfl
      generalize (ao_u M q1 77 s0) = M63 at h
      obtain ⟨-, h⟩ := ao_some h
      obtain ⟨p65, hp65, h⟩ := ao_bind h
      cases h
      exact ao_le_rf _
set_option maxRecDepth 100000 in
set_option maxHeartbeats 4000000 in
theorem wX12_looks {Γ : ao_C} (d : Nat) (hd : 6 ≤ d) (MC MS : Nat) : ∀ n : Nat, (∀ (r0 : Nat) (x1 : Int32) (x2 : Int32) (M : ao_M) (ρ : ao_H) (y : Int32 × ao_S), fX12_looks n 0 r0 x1 x2 0 0 0 M ρ = some y → ao_W Γ uX12_looks (ao_rm d MC MS) (ao_Q Γ (ao_QI y) MC MS) (ao_dc ρ y.2.2) (ao_ds ρ y.2.2) 0 [some (.ref (Γ.2.2.2 + r0)), some (.int x1), some (.int x2), none] [] (M, ρ)) ∧ (∀ (r0 : Nat) (x1 : Int32) (x2 : Int32) (x3 : Int32) (M : ao_M) (ρ : ao_H) (y : Int32 × ao_S), fX12_looks n 36 r0 x1 x2 x3 0 0 M ρ = some y → ao_W Γ uX12_looks (ao_rm d MC MS) (ao_Q Γ (ao_QI y) MC MS) (ao_dc ρ y.2.2) (ao_ds ρ y.2.2) 36 [some (.ref (Γ.2.2.2 + r0)), some (.int x1), some (.int x2), some (.int x3)] [] (M, ρ)) ∧ (∀ (r0 : Nat) (x1 : Int32) (x2 : Int32) (x3 : Int32) (M : ao_M) (ρ : ao_H) (y : Int32 × ao_S), fX12_looks n 65 r0 x1 x2 x3 0 0 M ρ = some y → ao_W Γ uX12_looks (ao_rm d MC MS) (ao_Q Γ (ao_QI y) MC MS) (ao_dc ρ y.2.2) (ao_ds ρ y.2.2) 65 [some (.ref (Γ.2.2.2 + r0)), some (.int x1), some (.int x2), some (.int x3)] [] (M, ρ)) ∧ (∀ (r0 : Nat) (x1 : Int32) (x2 : Int32) (x3 : Int32) (M : ao_M) (ρ : ao_H) (y : Int32 × ao_S), fX12_looks n 120 r0 x1 x2 x3 0 0 M ρ = some y → ao_W Γ uX12_looks (ao_rm d MC MS) (ao_Q Γ (ao_QI y) MC MS) (ao_dc ρ y.2.2) (ao_ds ρ y.2.2) 120 [some (.ref (Γ.2.2.2 + r0)), some (.int x1), some (.int x2), some (.int x3)] [] (M, ρ)) ∧ (∀ (r0 : Nat) (x1 : Int32) (x2 : Int32) (x3 : Int32) (s0 : Int32) (M : ao_M) (ρ : ao_H) (y : Int32 × ao_S), fX12_looks n 140 r0 x1 x2 x3 s0 0 M ρ = some y → ao_W Γ uX12_looks (ao_rm d MC MS) (ao_Q Γ (ao_QI y) MC MS) (ao_dc ρ y.2.2) (ao_ds ρ y.2.2) 140 [some (.ref (Γ.2.2.2 + r0)), some (.int x1), some (.int x2), some (.int x3)] [.int s0] (M, ρ)) ∧ (∀ (r0 : Nat) (x1 : Int32) (x2 : Int32) (x3 : Int32) (s0 : Int32) (M : ao_M) (ρ : ao_H) (y : Int32 × ao_S), fX12_looks n 164 r0 x1 x2 x3 s0 0 M ρ = some y → ao_W Γ uX12_looks (ao_rm d MC MS) (ao_Q Γ (ao_QI y) MC MS) (ao_dc ρ y.2.2) (ao_ds ρ y.2.2) 164 [some (.ref (Γ.2.2.2 + r0)), some (.int x1), some (.int x2), some (.int x3)] [.int s0] (M, ρ)) ∧ (∀ (r0 : Nat) (x1 : Int32) (x2 : Int32) (x3 : Int32) (s0 : Int32) (M : ao_M) (ρ : ao_H) (y : Int32 × ao_S), fX12_looks n 172 r0 x1 x2 x3 s0 0 M ρ = some y → ao_W Γ uX12_looks (ao_rm d MC MS) (ao_Q Γ (ao_QI y) MC MS) (ao_dc ρ y.2.2) (ao_ds ρ y.2.2) 172 [some (.ref (Γ.2.2.2 + r0)), some (.int x1), some (.int x2), some (.int x3)] [.int s0] (M, ρ)) ∧ (∀ (r0 : Nat) (x1 : Int32) (x2 : Int32) (x3 : Int32) (M : ao_M) (ρ : ao_H) (y : Int32 × ao_S), fX12_looks n 177 r0 x1 x2 x3 0 0 M ρ = some y → ao_W Γ uX12_looks (ao_rm d MC MS) (ao_Q Γ (ao_QI y) MC MS) (ao_dc ρ y.2.2) (ao_ds ρ y.2.2) 177 [some (.ref (Γ.2.2.2 + r0)), some (.int x1), some (.int x2), some (.int x3)] [] (M, ρ)) ∧ (∀ (r0 : Nat) (x1 : Int32) (x2 : Int32) (x3 : Int32) (s0 : Int32) (q1 : Nat) (M : ao_M) (ρ : ao_H) (y : Int32 × ao_S), fX12_looks n 206 r0 x1 x2 x3 s0 q1 M ρ = some y → ao_W Γ uX12_looks (ao_rm d MC MS) (ao_Q Γ (ao_QI y) MC MS) (ao_dc ρ y.2.2) (ao_ds ρ y.2.2) 206 [some (.ref (Γ.2.2.2 + r0)), some (.int x1), some (.int x2), some (.int x3)] [.int s0, .ref (Γ.2.2.2 + q1)] (M, ρ)) := by
  intro n
  induction n with
  | zero => exact ⟨fun _ _ _ _ _ _ h => ao_no h, fun _ _ _ _ _ _ _ h => ao_no h, fun _ _ _ _ _ _ _ h => ao_no h, fun _ _ _ _ _ _ _ h => ao_no h, fun _ _ _ _ _ _ _ _ h => ao_no h, fun _ _ _ _ _ _ _ _ h => ao_no h, fun _ _ _ _ _ _ _ _ h => ao_no h, fun _ _ _ _ _ _ _ h => ao_no h, fun _ _ _ _ _ _ _ _ _ h => ao_no h⟩
  | succ n ih =>
    refine ⟨?_, ?_, ?_, ?_, ?_, ?_, ?_, ?_, ?_⟩
    · intro r0 x1 x2 M ρ y h
      replace h := ao_ifT h rfl
      refine ao_aload_n 0 dX12_looks_0 rfl rfl ?_
      refine ao_iload_n 1 dX12_looks_1 rfl rfl ?_
      refine ao_iload_n 2 dX12_looks_2 rfl rfl ?_
      obtain ⟨hk1, h⟩ := ao_some h
      obtain ⟨p2, hp2, h⟩ := ao_bind h
      refine an_callVi r0 12 (q := (RX12, TX12, 83)) [.int x1, .int x2] (aX12_writtenLevel (d - 1) (by omega) _ r0 x1 x2 M ρ hp2) dX12_looks_3 lc_X12_402 li_X12_writtenLevel ls_X12_writtenLevel rfl hk1 rfl rfl (Nat.le_of_ble_eq_true rfl) (ao_hR (by omega) (by decide)) ?_
      refine an_topi (fun v3 hv3 => ?_)
      replace h := ao_letD h hv3
      refine ao_istore_n 3 (lo' := [some (.ref (Γ.2.2.2 + r0)), some (.int x1), some (.int x2), some (.int v3)]) dX12_looks_6 rfl (Nat.le_of_ble_eq_true rfl) rfl ?_
      refine ao_iload_n 3 dX12_looks_7 rfl rfl ?_
      refine ao_if_lt 36 dX12_looks_8 (by decide) (fun c4 => ?_) (fun c4 => ?_)
      · replace h := ao_ifT h c4
        exact ih.2.1 r0 x1 x2 v3 p2.2 ρ _ h
      · replace h := ao_ifF h c4
        refine ao_aload_n 0 dX12_looks_11 rfl rfl ?_
        obtain ⟨p5, hp5, h⟩ := ao_bind h
        refine an_callVi r0 12 (q := (RX12, TX12, 83)) [] (aX12_isEager (d - 1) (by omega) _ r0 p2.2 ρ hp5) dX12_looks_12 lc_X12_369 li_X12_isEager ls_X12_isEager rfl hk1 rfl rfl (Nat.le_of_ble_eq_true rfl) (ao_hR (by omega) (by decide)) ?_
        refine ao_if_ne 36 dX12_looks_15 (by decide) (fun c6 => ?_) (fun c6 => ?_)
        · replace h := ao_ifF h c6
          exact ih.2.1 r0 x1 x2 v3 p5.2 ρ _ h
        · replace h := ao_ifT h c6
          refine ao_aload_n 0 dX12_looks_18 rfl rfl ?_
          refine ao_aload_n 0 dX12_looks_19 rfl rfl ?_
          obtain ⟨j7, hj7, h⟩ := ao_bind h
          refine an_getR r0 12 60 (q := (RX12, TX12, 83)) dX12_looks_20 rfl hk1 (Nat.le_of_ble_eq_true rfl) rfl lf_X12_281 hj7 ?_
          refine ao_aload_n 0 dX12_looks_23 rfl rfl ?_
          refine ao_iload_n 1 dX12_looks_24 rfl rfl ?_
          refine ao_iload_n 3 dX12_looks_25 rfl rfl ?_
          refine ao_iload_n 2 dX12_looks_26 rfl rfl ?_
          obtain ⟨p8, hp8, h⟩ := ao_bind h
          refine an_callVi r0 12 (q := (RX12, TX12, 83)) [.int x1, .int v3, .int x2] (aX12_cell (d - 1) (by omega) r0 x1 v3 x2 p5.2 ρ hp8) dX12_looks_27 lc_X12_357 li_X12_cell ls_X12_cell rfl hk1 rfl rfl (Nat.le_of_ble_eq_true rfl) (ao_hR (by omega) (by decide)) ?_
          obtain ⟨hk9, h⟩ := ao_some h
          obtain ⟨hb10, h⟩ := ao_some h
          refine an_iaload j7 dX12_looks_30 hk9 hb10 ?_
          refine an_putI r0 12 77 (q := (RX12, TX12, 83)) dX12_looks_31 rfl hk1 (Nat.le_of_ble_eq_true rfl) lf_X12_405 rfl rfl rfl rfl (fun M11 hM11 => ?_)
          replace h := ao_letD h hM11
          refine ao_iconst (v := 1) dX12_looks_34 (by decide) ?_
          cases h
          exact ao_ireturn dX12_looks_35 rfl rfl ⟨rfl, rfl⟩
    · intro r0 x1 x2 x3 M ρ y h
      replace h := ao_ifF h (by decide)
      replace h := ao_ifT h rfl
      refine ao_aload_n 0 dX12_looks_36 rfl rfl ?_
      obtain ⟨hk12, h⟩ := ao_some h
      obtain ⟨p13, hp13, h⟩ := ao_bind h
      refine an_callVi r0 12 (q := (RX12, TX12, 83)) [] (aX12_isEager (d - 1) (by omega) _ r0 M ρ hp13) dX12_looks_37 lc_X12_369 li_X12_isEager ls_X12_isEager rfl hk12 rfl rfl (Nat.le_of_ble_eq_true rfl) (ao_hR (by omega) (by decide)) ?_
      refine ao_if_eq 65 dX12_looks_40 (by decide) (fun c14 => ?_) (fun c14 => ?_)
      · replace h := ao_ifT h c14
        exact ih.2.2.1 r0 x1 x2 x3 p13.2 ρ _ h
      · replace h := ao_ifF h c14
        refine ao_aload_n 0 dX12_looks_43 rfl rfl ?_
        obtain ⟨j15, hj15, h⟩ := ao_bind h
        refine an_getR r0 12 19 (q := (RX12, TX12, 83)) dX12_looks_44 rfl hk12 (Nat.le_of_ble_eq_true rfl) rfl lf_X12_177 hj15 ?_
        refine ao_iload_n 2 dX12_looks_47 rfl rfl ?_
        obtain ⟨hk16, h⟩ := ao_some h
        obtain ⟨hb17, h⟩ := ao_some h
        refine an_iaload j15 dX12_looks_48 hk16 hb17 ?_
        refine ao_iload_n 1 dX12_looks_49 rfl rfl ?_
        refine ao_icmp_ne 65 dX12_looks_50 (by decide) (fun c18 => ?_) (fun c18 => ?_)
        · replace h := ao_ifF h c18
          exact ih.2.2.1 r0 x1 x2 x3 p13.2 ρ _ h
        · replace h := ao_ifT h c18
          refine ao_aload_n 0 dX12_looks_53 rfl rfl ?_
          refine ao_aload_n 0 dX12_looks_54 rfl rfl ?_
          obtain ⟨j19, hj19, h⟩ := ao_bind h
          refine an_getR r0 12 17 (q := (RX12, TX12, 83)) dX12_looks_55 rfl hk12 (Nat.le_of_ble_eq_true rfl) rfl lf_X12_151 hj19 ?_
          refine ao_iload_n 2 dX12_looks_58 rfl rfl ?_
          obtain ⟨hk20, h⟩ := ao_some h
          obtain ⟨hb21, h⟩ := ao_some h
          refine an_iaload j19 dX12_looks_59 hk20 hb21 ?_
          refine an_putI r0 12 77 (q := (RX12, TX12, 83)) dX12_looks_60 rfl hk12 (Nat.le_of_ble_eq_true rfl) lf_X12_405 rfl rfl rfl rfl (fun M22 hM22 => ?_)
          replace h := ao_letD h hM22
          refine ao_iconst (v := 1) dX12_looks_63 (by decide) ?_
          cases h
          exact ao_ireturn dX12_looks_64 rfl rfl ⟨rfl, rfl⟩
    · intro r0 x1 x2 x3 M ρ y h
      replace h := ao_ifF h (by decide)
      replace h := ao_ifF h (by decide)
      replace h := ao_ifT h rfl
      refine ao_aload_n 0 dX12_looks_65 rfl rfl ?_
      obtain ⟨hk23, h⟩ := ao_some h
      refine an_getI r0 12 27 (q := (RX12, TX12, 83)) dX12_looks_66 rfl hk23 (Nat.le_of_ble_eq_true rfl) rfl lf_X12_332 ?_
      refine an_topi (fun v24 hv24 => ?_)
      replace h := ao_letD h hv24
      by_cases c25 : v24 = (0 : Int32)
      · replace h := ao_ifT h c25
        refine ao_tableIn 100 dX12_looks_69 (by rw [c25]; decide) (by rw [c25]; decide) (by rw [c25]; rfl) (by decide) ?_
        refine ao_aload_n 0 dX12_looks_100 rfl rfl ?_
        obtain ⟨j26, hj26, h⟩ := ao_bind h
        refine an_getR r0 12 18 (q := (RX12, TX12, 83)) dX12_looks_101 rfl hk23 (Nat.le_of_ble_eq_true rfl) rfl lf_X12_157 hj26 ?_
        refine ao_iload_n 2 dX12_looks_104 rfl rfl ?_
        obtain ⟨hk27, h⟩ := ao_some h
        obtain ⟨hb28, h⟩ := ao_some h
        refine an_iaload j26 dX12_looks_105 hk27 hb28 ?_
        refine ao_aload_n 0 dX12_looks_106 rfl rfl ?_
        obtain ⟨j29, hj29, h⟩ := ao_bind h
        refine an_getR r0 12 38 (q := (RX12, TX12, 83)) dX12_looks_107 rfl hk23 (Nat.le_of_ble_eq_true rfl) rfl lf_X12_214 hj29 ?_
        refine ao_iload_n 1 dX12_looks_110 rfl rfl ?_
        obtain ⟨hk30, h⟩ := ao_some h
        obtain ⟨hb31, h⟩ := ao_some h
        refine an_iaload j29 dX12_looks_111 hk30 hb31 ?_
        refine ao_icmp_le 177 dX12_looks_112 (by decide) (fun c32 => ?_) (fun c32 => ?_)
        · replace h := ao_ifT h c32
          exact ih.2.2.2.2.2.2.2.1 r0 x1 x2 x3 M ρ _ h
        · replace h := ao_ifF h c32
          refine ao_aload_n 0 dX12_looks_115 rfl rfl ?_
          refine ao_iload_n 1 dX12_looks_116 rfl rfl ?_
          obtain ⟨p33, hp33, h⟩ := ao_bind h
          refine ba_callVv r0 12 (q := (RX12, TX12, 83)) [.int x1] (aX12_conflict (d - 1) (by omega) n r0 x1 M ρ hp33) dX12_looks_117 lc_X12_399 li_X12_conflict ls_X12_conflict rfl hk23 rfl rfl (Nat.le_of_ble_eq_true rfl) (ao_hR (by omega) (by decide)) (ao_leC (me_X12_conflict n r0 x1 M ρ hp33) ((mX12_looks n).2.2.2.1 r0 x1 x2 x3 p33.1 p33.2 _ h)) (ao_leS (me_X12_conflict n r0 x1 M ρ hp33) ((mX12_looks n).2.2.2.1 r0 x1 x2 x3 p33.1 p33.2 _ h)) ?_
          exact ih.2.2.2.1 r0 x1 x2 x3 p33.1 p33.2 _ h
      · replace h := ao_ifF h c25
        by_cases c34 : v24 = (1 : Int32)
        · replace h := ao_ifT h c34
          refine ao_tableIn 122 dX12_looks_69 (by rw [c34]; decide) (by rw [c34]; decide) (by rw [c34]; rfl) (by decide) ?_
          refine ao_aload_n 0 dX12_looks_122 rfl rfl ?_
          refine an_getI r0 12 26 (q := (RX12, TX12, 83)) dX12_looks_123 rfl hk23 (Nat.le_of_ble_eq_true rfl) rfl lf_X12_148 ?_
          refine ao_aload_n 0 dX12_looks_126 rfl rfl ?_
          obtain ⟨j35, hj35, h⟩ := ao_bind h
          refine an_getR r0 12 38 (q := (RX12, TX12, 83)) dX12_looks_127 rfl hk23 (Nat.le_of_ble_eq_true rfl) rfl lf_X12_214 hj35 ?_
          refine ao_iload_n 1 dX12_looks_130 rfl rfl ?_
          obtain ⟨hk36, h⟩ := ao_some h
          obtain ⟨hb37, h⟩ := ao_some h
          refine an_iaload j35 dX12_looks_131 hk36 hb37 ?_
          refine ao_icmp_eq 177 dX12_looks_132 (by decide) (fun c38 => ?_) (fun c38 => ?_)
          · replace h := ao_ifT h c38
            exact ih.2.2.2.2.2.2.2.1 r0 x1 x2 x3 M ρ _ h
          · replace h := ao_ifF h c38
            refine ao_aload_n 0 dX12_looks_135 rfl rfl ?_
            refine ao_iload_n 1 dX12_looks_136 rfl rfl ?_
            obtain ⟨p39, hp39, h⟩ := ao_bind h
            refine ba_callVi r0 12 (q := (RX12, TX12, 83)) [.int x1] (aX12_goesOn (d - 1) (by omega) n r0 x1 M ρ hp39) dX12_looks_137 lc_X12_408 li_X12_goesOn ls_X12_goesOn rfl hk23 rfl rfl (Nat.le_of_ble_eq_true rfl) (ao_hR (by omega) (by decide)) (ao_leC (me_X12_goesOn n r0 x1 M ρ hp39) ((mX12_looks n).2.2.2.2.1 r0 x1 x2 x3 p39.1 p39.2.1 p39.2.2 _ h)) (ao_leS (me_X12_goesOn n r0 x1 M ρ hp39) ((mX12_looks n).2.2.2.2.1 r0 x1 x2 x3 p39.1 p39.2.1 p39.2.2 _ h)) ?_
            exact ih.2.2.2.2.1 r0 x1 x2 x3 p39.1 p39.2.1 p39.2.2 _ h
        · replace h := ao_ifF h c34
          by_cases c40 : v24 = (3 : Int32)
          · replace h := ao_ifT h c40
            refine ao_tableIn 158 dX12_looks_69 (by rw [c40]; decide) (by rw [c40]; decide) (by rw [c40]; rfl) (by decide) ?_
            refine ao_aload_n 0 dX12_looks_158 rfl rfl ?_
            refine ao_iload_n 1 dX12_looks_159 rfl rfl ?_
            refine ao_iload_n 2 dX12_looks_160 rfl rfl ?_
            obtain ⟨p41, hp41, h⟩ := ao_bind h
            refine ba_callVi r0 12 (q := (RX12, TX12, 83)) [.int x1, .int x2] (aX12_wins (d - 1) (by omega) n r0 x1 x2 M ρ hp41) dX12_looks_161 lc_X12_411 li_X12_wins ls_X12_wins rfl hk23 rfl rfl (Nat.le_of_ble_eq_true rfl) (ao_hR (by omega) (by decide)) (ao_leC (me_X12_wins n r0 x1 x2 M ρ hp41) ((mX12_looks n).2.2.2.2.2.1 r0 x1 x2 x3 p41.1 p41.2.1 p41.2.2 _ h)) (ao_leS (me_X12_wins n r0 x1 x2 M ρ hp41) ((mX12_looks n).2.2.2.2.2.1 r0 x1 x2 x3 p41.1 p41.2.1 p41.2.2 _ h)) ?_
            exact ih.2.2.2.2.2.1 r0 x1 x2 x3 p41.1 p41.2.1 p41.2.2 _ h
          · replace h := ao_ifF h c40
            by_cases c42 : v24 = (2 : Int32)
            · refine ao_tableIn 177 dX12_looks_69 (by rw [c42]; decide) (by rw [c42]; decide) (by rw [c42]; rfl) (by decide) ?_
              exact ih.2.2.2.2.2.2.2.1 r0 x1 x2 x3 M ρ _ h
            · refine ao_tableOut 177 dX12_looks_69 (by have nc25 := ao_ne (z := 0) c25 (by decide); have nc34 := ao_ne (z := 1) c34 (by decide); have nc40 := ao_ne (z := 3) c40 (by decide); have nc42 := ao_ne (z := 2) c42 (by decide); omega) (by decide) ?_
              exact ih.2.2.2.2.2.2.2.1 r0 x1 x2 x3 M ρ _ h
    · intro r0 x1 x2 x3 M ρ y h
      replace h := ao_ifF h (by decide)
      replace h := ao_ifF h (by decide)
      replace h := ao_ifF h (by decide)
      replace h := ao_ifT h rfl
      refine ao_iconst (v := 0) dX12_looks_120 (by decide) ?_
      cases h
      exact ao_ireturn dX12_looks_121 rfl rfl ⟨rfl, rfl⟩
    · intro r0 x1 x2 x3 s0 M ρ y h
      replace h := ao_ifF h (by decide)
      replace h := ao_ifF h (by decide)
      replace h := ao_ifF h (by decide)
      replace h := ao_ifF h (by decide)
      replace h := ao_ifT h rfl
      refine ao_if_ne 145 dX12_looks_140 (by decide) (fun c43 => ?_) (fun c43 => ?_)
      · replace h := ao_ifF h c43
        refine ao_aload_n 0 dX12_looks_145 rfl rfl ?_
        obtain ⟨hk44, h⟩ := ao_some h
        obtain ⟨j45, hj45, h⟩ := ao_bind h
        refine an_getR r0 12 38 (q := (RX12, TX12, 83)) dX12_looks_146 rfl hk44 (Nat.le_of_ble_eq_true rfl) rfl lf_X12_214 hj45 ?_
        refine ao_iload_n 1 dX12_looks_149 rfl rfl ?_
        refine ao_aload_n 0 dX12_looks_150 rfl rfl ?_
        refine an_getI r0 12 26 (q := (RX12, TX12, 83)) dX12_looks_151 rfl hk44 (Nat.le_of_ble_eq_true rfl) rfl lf_X12_148 ?_
        obtain ⟨hk46, h⟩ := ao_some h
        obtain ⟨hb47, h⟩ := ao_some h
        refine an_iastore j45 dX12_looks_154 hk46 hb47 (fun M48 hM48 => ?_)
        replace h := ao_letD h hM48
        refine ao_goto 177 dX12_looks_155 (by decide) ?_
        exact ih.2.2.2.2.2.2.2.1 r0 x1 x2 x3 M48 ρ _ h
      · replace h := ao_ifT h c43
        refine ao_iconst (v := 0) dX12_looks_143 (by decide) ?_
        cases h
        exact ao_ireturn dX12_looks_144 rfl rfl ⟨rfl, rfl⟩
    · intro r0 x1 x2 x3 s0 M ρ y h
      replace h := ao_ifF h (by decide)
      replace h := ao_ifF h (by decide)
      replace h := ao_ifF h (by decide)
      replace h := ao_ifF h (by decide)
      replace h := ao_ifF h (by decide)
      replace h := ao_ifT h rfl
      refine ao_if_eq 175 dX12_looks_164 (by decide) (fun c49 => ?_) (fun c49 => ?_)
      · replace h := ao_ifT h c49
        refine ao_iconst (v := 0) dX12_looks_175 (by decide) ?_
        cases h
        exact ao_ireturn dX12_looks_176 rfl rfl ⟨rfl, rfl⟩
      · replace h := ao_ifF h c49
        refine ao_aload_n 0 dX12_looks_167 rfl rfl ?_
        refine ao_iload_n 1 dX12_looks_168 rfl rfl ?_
        obtain ⟨hk50, h⟩ := ao_some h
        obtain ⟨p51, hp51, h⟩ := ao_bind h
        refine ba_callVi r0 12 (q := (RX12, TX12, 83)) [.int x1] (aX12_goesOn (d - 1) (by omega) n r0 x1 M ρ hp51) dX12_looks_169 lc_X12_408 li_X12_goesOn ls_X12_goesOn rfl hk50 rfl rfl (Nat.le_of_ble_eq_true rfl) (ao_hR (by omega) (by decide)) (ao_leC (me_X12_goesOn n r0 x1 M ρ hp51) ((mX12_looks n).2.2.2.2.2.2.1 r0 x1 x2 x3 p51.1 p51.2.1 p51.2.2 _ h)) (ao_leS (me_X12_goesOn n r0 x1 M ρ hp51) ((mX12_looks n).2.2.2.2.2.2.1 r0 x1 x2 x3 p51.1 p51.2.1 p51.2.2 _ h)) ?_
        exact ih.2.2.2.2.2.2.1 r0 x1 x2 x3 p51.1 p51.2.1 p51.2.2 _ h
    · intro r0 x1 x2 x3 s0 M ρ y h
      replace h := ao_ifF h (by decide)
      replace h := ao_ifF h (by decide)
      replace h := ao_ifF h (by decide)
      replace h := ao_ifF h (by decide)
      replace h := ao_ifF h (by decide)
      replace h := ao_ifF h (by decide)
      replace h := ao_ifT h rfl
      refine ao_if_ne 177 dX12_looks_172 (by decide) (fun c52 => ?_) (fun c52 => ?_)
      · replace h := ao_ifF h c52
        exact ih.2.2.2.2.2.2.2.1 r0 x1 x2 x3 M ρ _ h
      · replace h := ao_ifT h c52
        refine ao_iconst (v := 0) dX12_looks_175 (by decide) ?_
        cases h
        exact ao_ireturn dX12_looks_176 rfl rfl ⟨rfl, rfl⟩
    · intro r0 x1 x2 x3 M ρ y h
      replace h := ao_ifF h (by decide)
      replace h := ao_ifF h (by decide)
      replace h := ao_ifF h (by decide)
      replace h := ao_ifF h (by decide)
      replace h := ao_ifF h (by decide)
      replace h := ao_ifF h (by decide)
      replace h := ao_ifF h (by decide)
      replace h := ao_ifT h rfl
      refine ao_aload_n 0 dX12_looks_177 rfl rfl ?_
      refine ao_aload_n 0 dX12_looks_178 rfl rfl ?_
      obtain ⟨hk53, h⟩ := ao_some h
      refine an_getI r0 12 27 (q := (RX12, TX12, 83)) dX12_looks_179 rfl hk53 (Nat.le_of_ble_eq_true rfl) rfl lf_X12_332 ?_
      refine ao_iconst (v := 2) dX12_looks_182 (by decide) ?_
      refine ao_icmp_ne 200 dX12_looks_183 (by decide) (fun c54 => ?_) (fun c54 => ?_)
      · replace h := ao_ifF h c54
        refine ao_aload_n 0 dX12_looks_200 rfl rfl ?_
        obtain ⟨j55, hj55, h⟩ := ao_bind h
        refine an_getR r0 12 17 (q := (RX12, TX12, 83)) dX12_looks_201 rfl hk53 (Nat.le_of_ble_eq_true rfl) rfl lf_X12_151 hj55 ?_
        refine ao_iload_n 2 dX12_looks_204 rfl rfl ?_
        obtain ⟨hk56, h⟩ := ao_some h
        obtain ⟨hb57, h⟩ := ao_some h
        refine an_iaload j55 dX12_looks_205 hk56 hb57 ?_
        exact ih.2.2.2.2.2.2.2.2 r0 x1 x2 x3 (M j55 x2.toNatClampNeg) r0 M ρ _ h
      · replace h := ao_ifT h c54
        refine ao_aload_n 0 dX12_looks_186 rfl rfl ?_
        refine ao_iload_n 2 dX12_looks_187 rfl rfl ?_
        refine ao_aload_n 0 dX12_looks_188 rfl rfl ?_
        obtain ⟨j58, hj58, h⟩ := ao_bind h
        refine an_getR r0 12 38 (q := (RX12, TX12, 83)) dX12_looks_189 rfl hk53 (Nat.le_of_ble_eq_true rfl) rfl lf_X12_214 hj58 ?_
        refine ao_iload_n 1 dX12_looks_192 rfl rfl ?_
        obtain ⟨hk59, h⟩ := ao_some h
        obtain ⟨hb60, h⟩ := ao_some h
        refine an_iaload j58 dX12_looks_193 hk59 hb60 ?_
        obtain ⟨p61, hp61, h⟩ := ao_bind h
        refine an_callVi r0 12 (q := (RX12, TX12, 83)) [.int x2, .int (M j58 x1.toNatClampNeg)] (aX12_past (d - 1) (by omega) _ r0 x2 (M j58 x1.toNatClampNeg) M ρ hp61) dX12_looks_194 lc_X12_415 li_X12_past ls_X12_past rfl hk53 rfl rfl (Nat.le_of_ble_eq_true rfl) (ao_hR (by omega) (by decide)) ?_
        refine ao_goto 206 dX12_looks_197 (by decide) ?_
        exact ih.2.2.2.2.2.2.2.2 r0 x1 x2 x3 p61.1 r0 p61.2 ρ _ h
    · intro r0 x1 x2 x3 s0 q1 M ρ y h
      replace h := ao_ifF h (by decide)
      replace h := ao_ifF h (by decide)
      replace h := ao_ifF h (by decide)
      replace h := ao_ifF h (by decide)
      replace h := ao_ifF h (by decide)
      replace h := ao_ifF h (by decide)
      replace h := ao_ifF h (by decide)
      replace h := ao_ifF h (by decide)
      replace h := ao_ifT h rfl
      obtain ⟨hk62, h⟩ := ao_some h
      refine an_putI q1 12 77 (q := (RX12, TX12, 83)) dX12_looks_206 rfl hk62 (Nat.le_of_ble_eq_true rfl) lf_X12_405 rfl rfl rfl rfl (fun M63 hM63 => ?_)
      replace h := ao_letD h hM63
      refine ao_aload_n 0 dX12_looks_209 rfl rfl ?_
      refine ao_iload_n 1 dX12_looks_210 rfl rfl ?_
      refine ao_iload_n 2 dX12_looks_211 rfl rfl ?_
      refine ao_aload_n 0 dX12_looks_212 rfl rfl ?_
      obtain ⟨hk64, h⟩ := ao_some h
      refine an_getI r0 12 77 (q := (RX12, TX12, 83)) dX12_looks_213 rfl hk64 (Nat.le_of_ble_eq_true rfl) rfl lf_X12_405 ?_
      obtain ⟨p65, hp65, h⟩ := ao_bind h
      refine an_callVv r0 12 (q := (RX12, TX12, 83)) [.int x1, .int x2, .int (M63 r0 77)] (aX12_addRead (d - 1) (by omega) r0 x1 x2 (M63 r0 77) M63 ρ hp65) dX12_looks_216 lc_X12_418 li_X12_addRead ls_X12_addRead rfl hk64 rfl rfl (Nat.le_of_ble_eq_true rfl) (ao_hR (by omega) (by decide)) ?_
      refine ao_iconst (v := 1) dX12_looks_219 (by decide) ?_
      cases h
      exact ao_ireturn dX12_looks_220 rfl rfl ⟨rfl, rfl⟩
theorem me_X12_looks (n : Nat) (r0 : Nat) (x1 : Int32) (x2 : Int32) (M : ao_M) (ρ : ao_H) {y : Int32 × ao_S} (h : gX12_looks n r0 x1 x2 M ρ = some y) : ao_le ρ y.2.2 := (mX12_looks n).1 r0 x1 x2 M ρ y h
set_option maxRecDepth 100000 in
set_option maxHeartbeats 4000000 in
theorem aX12_looks {Γ : ao_C} (d : Nat) (hd : 6 ≤ d) (n : Nat) (r0 : Nat) (x1 : Int32) (x2 : Int32) (M : ao_M) (ρ : ao_H) {y : Int32 × ao_S} (h : gX12_looks n r0 x1 x2 M ρ = some y) : ao_A Γ uX12_looks d (ao_dc ρ y.2.2) (ao_ds ρ y.2.2) [.ref (Γ.2.2.2 + r0), .int x1, .int x2] (M, ρ) (ao_QI y) := by
  refine ao_of (by decide) (ao_cat1 (Nat.le_of_ble_eq_true rfl)) (Nat.le_of_ble_eq_true rfl) ?_
  show ao_W Γ uX12_looks (ao_rm d (ao_dc ρ y.2.2) (ao_ds ρ y.2.2)) (ao_Q Γ (ao_QI y) (ao_dc ρ y.2.2) (ao_ds ρ y.2.2)) (ao_dc ρ y.2.2) (ao_ds ρ y.2.2) 0 [some (.ref (Γ.2.2.2 + r0)), some (.int x1), some (.int x2), none] [] (M, ρ)
  exact (wX12_looks d hd _ _ n).1 r0 x1 x2 M ρ y h

abbrev uX12_write : ao_Mi := (yX12_write, cX12_write, 5, (some .boolean), [])
def fX12_write : Nat → Nat → Nat → Int32 → Int32 → Int32 → Int32 → Int32 →  ao_M → ao_H → Option (Int32 × ao_S)
  | 0, _, _, _, _, _, _, _, _, _ => none
  | n + 1, pc, r0, x1, x2, x3, x4, s0, M, ρ =>
    if pc = 0 then
      if ρ.2.1 r0 = 22 then
      if (M r0 27) = (3 : Int32) then
        (gX12_wins n r0 x1 x2 M ρ).bind fun p3 =>
        fX12_write n 14 r0 x1 x2 x3 0 p3.1 p3.2.1 p3.2.2
      else
        fX12_write n 27 r0 x1 x2 x3 0 0 M ρ
      else none
    else if pc = 14 then
      if s0 = 0 then
        some ((0 : Int32), M, ρ)
      else
        if ρ.2.1 r0 = 22 then
        (gX12_goesOn n r0 x1 M ρ).bind fun p6 =>
        fX12_write n 22 r0 x1 x2 x3 0 p6.1 p6.2.1 p6.2.2
        else none
    else if pc = 22 then
      if s0 = 0 then
        some ((0 : Int32), M, ρ)
      else
        fX12_write n 27 r0 x1 x2 x3 0 0 M ρ
    else if pc = 27 then
      if ρ.2.1 r0 = 22 then
      (ρ.1 r0 34).bind fun j9 =>
      if ρ.2.1 j9 = 0 then
      if ¬ (x1 < 0 ∨ ρ.2.2.1 j9 ≤ x1.toNatClampNeg) then
      (gX12_cell r0 x1 ((M j9 x1.toNatClampNeg) - (1 : Int32)) x2 M ρ).bind fun p12 =>
      ao_let p12.1 fun v13 =>
      (gX12_isEager n r0 p12.2 ρ).bind fun p14 =>
      if p14.1 = 0 then
        (ρ.1 r0 56).bind fun j28 =>
        if ρ.2.1 j28 = 2 then
        if ¬ (v13 < 0 ∨ ρ.2.2.1 j28 ≤ v13.toNatClampNeg) then
        ao_let (ao_u p14.2 j28 v13.toNatClampNeg (1 : Int32)) fun M31 =>
        (ρ.1 r0 60).bind fun j32 =>
        if ρ.2.1 j32 = 0 then
        if ¬ (v13 < 0 ∨ ρ.2.2.1 j32 ≤ v13.toNatClampNeg) then
        ao_let (ao_u M31 j32 v13.toNatClampNeg x3) fun M35 =>
        some ((1 : Int32), M35, ρ)
        else none
        else none
        else none
        else none
      else
        (ρ.1 r0 56).bind fun j16 =>
        if ρ.2.1 j16 = 2 then
        if ¬ (v13 < 0 ∨ ρ.2.2.1 j16 ≤ v13.toNatClampNeg) then
        if (p14.2 j16 v13.toNatClampNeg) = 0 then
          ao_let (ao_u p14.2 j16 v13.toNatClampNeg (1 : Int32)) fun M20 =>
          (ρ.1 r0 60).bind fun j21 =>
          (ρ.1 r0 17).bind fun j22 =>
          if ρ.2.1 j22 = 0 then
          if ¬ (x2 < 0 ∨ ρ.2.2.1 j22 ≤ x2.toNatClampNeg) then
          if ρ.2.1 j21 = 0 then
          if ¬ (v13 < 0 ∨ ρ.2.2.1 j21 ≤ v13.toNatClampNeg) then
          ao_let (ao_u M20 j21 v13.toNatClampNeg (M20 j22 x2.toNatClampNeg)) fun M27 =>
          fX12_write n 99 r0 x1 x2 x3 v13 0 M27 ρ
          else none
          else none
          else none
          else none
        else
          fX12_write n 99 r0 x1 x2 x3 v13 0 p14.2 ρ
        else none
        else none
      else none
      else none
      else none
    else if pc = 99 then
      if ρ.2.1 r0 = 22 then
      (ρ.1 r0 19).bind fun j37 =>
      if ρ.2.1 j37 = 0 then
      if ¬ (x2 < 0 ∨ ρ.2.2.1 j37 ≤ x2.toNatClampNeg) then
      ao_let (ao_u M j37 x2.toNatClampNeg x1) fun M40 =>
      (ρ.1 r0 17).bind fun j41 =>
      if ρ.2.1 j41 = 0 then
      if ¬ (x2 < 0 ∨ ρ.2.2.1 j41 ≤ x2.toNatClampNeg) then
      ao_let (ao_u M40 j41 x2.toNatClampNeg x3) fun M44 =>
      some ((1 : Int32), M44, ρ)
      else none
      else none
      else none
      else none
      else none
    else none
def gX12_write (n : Nat) (r0 : Nat) (x1 : Int32) (x2 : Int32) (x3 : Int32) (M : ao_M) (ρ : ao_H) : Option (Int32 × ao_S) := fX12_write n 0 r0 x1 x2 x3 0 0 M ρ
set_option maxRecDepth 100000 in
set_option maxHeartbeats 4000000 in
theorem mX12_write : ∀ n : Nat, (∀ (r0 : Nat) (x1 : Int32) (x2 : Int32) (x3 : Int32) (M : ao_M) (ρ : ao_H) (y : Int32 × ao_S), fX12_write n 0 r0 x1 x2 x3 0 0 M ρ = some y → ao_le ρ y.2.2) ∧ (∀ (r0 : Nat) (x1 : Int32) (x2 : Int32) (x3 : Int32) (s0 : Int32) (M : ao_M) (ρ : ao_H) (y : Int32 × ao_S), fX12_write n 14 r0 x1 x2 x3 0 s0 M ρ = some y → ao_le ρ y.2.2) ∧ (∀ (r0 : Nat) (x1 : Int32) (x2 : Int32) (x3 : Int32) (s0 : Int32) (M : ao_M) (ρ : ao_H) (y : Int32 × ao_S), fX12_write n 22 r0 x1 x2 x3 0 s0 M ρ = some y → ao_le ρ y.2.2) ∧ (∀ (r0 : Nat) (x1 : Int32) (x2 : Int32) (x3 : Int32) (M : ao_M) (ρ : ao_H) (y : Int32 × ao_S), fX12_write n 27 r0 x1 x2 x3 0 0 M ρ = some y → ao_le ρ y.2.2) ∧ (∀ (r0 : Nat) (x1 : Int32) (x2 : Int32) (x3 : Int32) (x4 : Int32) (M : ao_M) (ρ : ao_H) (y : Int32 × ao_S), fX12_write n 99 r0 x1 x2 x3 x4 0 M ρ = some y → ao_le ρ y.2.2) := by
  intro n
  induction n with
  | zero => exact ⟨fun _ _ _ _ _ _ _ h => ao_no h, fun _ _ _ _ _ _ _ _ h => ao_no h, fun _ _ _ _ _ _ _ _ h => ao_no h, fun _ _ _ _ _ _ _ h => ao_no h, fun _ _ _ _ _ _ _ _ h => ao_no h⟩
  | succ n ih =>
    refine ⟨?_, ?_, ?_, ?_, ?_⟩
    · intro r0 x1 x2 x3 M ρ y h
      replace h := ao_ifT h rfl
      obtain ⟨-, h⟩ := ao_some h
      rcases ao_ifC h with h | h
      · obtain ⟨p3, hp3, h⟩ := ao_bind h
        exact ao_le_tr (me_X12_wins n r0 x1 x2 M ρ hp3) (ih.2.1 r0 x1 x2 x3 p3.1 p3.2.1 p3.2.2 _ h)
      · exact ih.2.2.2.1 r0 x1 x2 x3 M ρ _ h
    · intro r0 x1 x2 x3 s0 M ρ y h
      replace h := ao_ifF h (by decide)
      replace h := ao_ifT h rfl
      rcases ao_ifC h with h | h
      · cases h
        exact ao_le_rf _
      · obtain ⟨-, h⟩ := ao_some h
        obtain ⟨p6, hp6, h⟩ := ao_bind h
        exact ao_le_tr (me_X12_goesOn n r0 x1 M ρ hp6) (ih.2.2.1 r0 x1 x2 x3 p6.1 p6.2.1 p6.2.2 _ h)
    · intro r0 x1 x2 x3 s0 M ρ y h
      replace h := ao_ifF h (by decide)
      replace h := ao_ifF h (by decide)
      replace h := ao_ifT h rfl
      rcases ao_ifC h with h | h
      · cases h
        exact ao_le_rf _
      · exact ih.2.2.2.1 r0 x1 x2 x3 M ρ _ h
    · intro r0 x1 x2 x3 M ρ y h
      replace h := ao_ifF h (by decide)
      replace h := ao_ifF h (by decide)
      replace h := ao_ifF h (by decide)
      replace h := ao_ifT h rfl
      obtain ⟨-, h⟩ := ao_some h
      obtain ⟨j9, hj9, h⟩ := ao_bind h
      obtain ⟨-, h⟩ := ao_some h
      obtain ⟨-, h⟩ := ao_some h
      obtain ⟨p12, hp12, h⟩ := ao_bind h
      replace h := ao_letD h rfl
      generalize p12.1 = v13 at h
      obtain ⟨p14, hp14, h⟩ := ao_bind h
      rcases ao_ifC h with h | h
      · obtain ⟨j28, hj28, h⟩ := ao_bind h
        obtain ⟨-, h⟩ := ao_some h
        obtain ⟨-, h⟩ := ao_some h
        replace h := ao_letD h rfl
        generalize (ao_u p14.2 j28 v13.toNatClampNeg (1 : Int32)) = M31 at h
        obtain ⟨j32, hj32, h⟩ := ao_bind h
        obtain ⟨-, h⟩ := ao_some h
        obtain ⟨-, h⟩ := ao_some h
        replace h := ao_letD h rfl
        generalize (ao_u M31 j32 v13.toNatClampNeg x3) = M35 at h
        cases h
        exact ao_le_rf _
      · obtain ⟨j16, hj16, h⟩ := ao_bind h
        obtain ⟨-, h⟩ := ao_some h
        obtain ⟨-, h⟩ := ao_some h
        rcases ao_ifC h with h | h
        · replace h := ao_letD h rfl
          generalize (ao_u p14.2 j16 v13.toNatClampNeg (1 : Int32)) = M20 at h
          obtain ⟨j21, hj21, h⟩ := ao_bind h
          obtain ⟨j22, hj22, h⟩ := ao_bind h
          obtain ⟨-, h⟩ := ao_some h
          obtain ⟨-, h⟩ := ao_some h
          obtain ⟨-, h⟩ := ao_some h
          obtain ⟨-, h⟩ := ao_some h
          replace h := ao_letD h rfl
          generalize (ao_u M20 j21 v13.toNatClampNeg (M20 j22 x2.toNatClampNeg)) = M27 at h
          exact ih.2.2.2.2 r0 x1 x2 x3 v13 M27 ρ _ h
        · exact ih.2.2.2.2 r0 x1 x2 x3 v13 p14.2 ρ _ h
    · intro r0 x1 x2 x3 x4 M ρ y h
      replace h := ao_ifF h (by decide)
      replace h := ao_ifF h (by decide)
      replace h := ao_ifF h (by decide)
      replace h := ao_ifF h (by decide)
      replace h := ao_ifT h rfl
      obtain ⟨-, h⟩ := ao_some h
      obtain ⟨j37, hj37, h⟩ := ao_bind h
      obtain ⟨-, h⟩ := ao_some h
      obtain ⟨-, h⟩ := ao_some h
      replace h := ao_letD h rfl
      generalize (ao_u M j37 x2.toNatClampNeg x1) = M40 at h
      obtain ⟨j41, hj41, h⟩ := ao_bind h
      obtain ⟨-, h⟩ := ao_some h
      obtain ⟨-, h⟩ := ao_some h
      replace h := ao_letD h rfl
      generalize (ao_u M40 j41 x2.toNatClampNeg x3) = M44 at h
      cases h
      exact ao_le_rf _
set_option maxRecDepth 100000 in
set_option maxHeartbeats 4000000 in
theorem wX12_write {Γ : ao_C} (d : Nat) (hd : 6 ≤ d) (MC MS : Nat) : ∀ n : Nat, (∀ (r0 : Nat) (x1 : Int32) (x2 : Int32) (x3 : Int32) (M : ao_M) (ρ : ao_H) (y : Int32 × ao_S), fX12_write n 0 r0 x1 x2 x3 0 0 M ρ = some y → ao_W Γ uX12_write (ao_rm d MC MS) (ao_Q Γ (ao_QI y) MC MS) (ao_dc ρ y.2.2) (ao_ds ρ y.2.2) 0 [some (.ref (Γ.2.2.2 + r0)), some (.int x1), some (.int x2), some (.int x3), none] [] (M, ρ)) ∧ (∀ (r0 : Nat) (x1 : Int32) (x2 : Int32) (x3 : Int32) (s0 : Int32) (M : ao_M) (ρ : ao_H) (y : Int32 × ao_S), fX12_write n 14 r0 x1 x2 x3 0 s0 M ρ = some y → ao_W Γ uX12_write (ao_rm d MC MS) (ao_Q Γ (ao_QI y) MC MS) (ao_dc ρ y.2.2) (ao_ds ρ y.2.2) 14 [some (.ref (Γ.2.2.2 + r0)), some (.int x1), some (.int x2), some (.int x3), none] [.int s0] (M, ρ)) ∧ (∀ (r0 : Nat) (x1 : Int32) (x2 : Int32) (x3 : Int32) (s0 : Int32) (M : ao_M) (ρ : ao_H) (y : Int32 × ao_S), fX12_write n 22 r0 x1 x2 x3 0 s0 M ρ = some y → ao_W Γ uX12_write (ao_rm d MC MS) (ao_Q Γ (ao_QI y) MC MS) (ao_dc ρ y.2.2) (ao_ds ρ y.2.2) 22 [some (.ref (Γ.2.2.2 + r0)), some (.int x1), some (.int x2), some (.int x3), none] [.int s0] (M, ρ)) ∧ (∀ (r0 : Nat) (x1 : Int32) (x2 : Int32) (x3 : Int32) (M : ao_M) (ρ : ao_H) (y : Int32 × ao_S), fX12_write n 27 r0 x1 x2 x3 0 0 M ρ = some y → ao_W Γ uX12_write (ao_rm d MC MS) (ao_Q Γ (ao_QI y) MC MS) (ao_dc ρ y.2.2) (ao_ds ρ y.2.2) 27 [some (.ref (Γ.2.2.2 + r0)), some (.int x1), some (.int x2), some (.int x3), none] [] (M, ρ)) ∧ (∀ (r0 : Nat) (x1 : Int32) (x2 : Int32) (x3 : Int32) (x4 : Int32) (M : ao_M) (ρ : ao_H) (y : Int32 × ao_S), fX12_write n 99 r0 x1 x2 x3 x4 0 M ρ = some y → ao_W Γ uX12_write (ao_rm d MC MS) (ao_Q Γ (ao_QI y) MC MS) (ao_dc ρ y.2.2) (ao_ds ρ y.2.2) 99 [some (.ref (Γ.2.2.2 + r0)), some (.int x1), some (.int x2), some (.int x3), some (.int x4)] [] (M, ρ)) := by
  intro n
  induction n with
  | zero => exact ⟨fun _ _ _ _ _ _ _ h => ao_no h, fun _ _ _ _ _ _ _ _ h => ao_no h, fun _ _ _ _ _ _ _ _ h => ao_no h, fun _ _ _ _ _ _ _ h => ao_no h, fun _ _ _ _ _ _ _ _ h => ao_no h⟩
  | succ n ih =>
    refine ⟨?_, ?_, ?_, ?_, ?_⟩
    · intro r0 x1 x2 x3 M ρ y h
      replace h := ao_ifT h rfl
      refine ao_aload_n 0 dX12_write_0 rfl rfl ?_
      obtain ⟨hk1, h⟩ := ao_some h
      refine an_getI r0 12 27 (q := (RX12, TX12, 83)) dX12_write_1 rfl hk1 (Nat.le_of_ble_eq_true rfl) rfl lf_X12_332 ?_
      refine ao_iconst (v := 3) dX12_write_4 (by decide) ?_
      refine ao_icmp_ne 27 dX12_write_5 (by decide) (fun c2 => ?_) (fun c2 => ?_)
      · replace h := ao_ifF h c2
        exact ih.2.2.2.1 r0 x1 x2 x3 M ρ _ h
      · replace h := ao_ifT h c2
        refine ao_aload_n 0 dX12_write_8 rfl rfl ?_
        refine ao_iload_n 1 dX12_write_9 rfl rfl ?_
        refine ao_iload_n 2 dX12_write_10 rfl rfl ?_
        obtain ⟨p3, hp3, h⟩ := ao_bind h
        refine ba_callVi r0 12 (q := (RX12, TX12, 83)) [.int x1, .int x2] (aX12_wins (d - 1) (by omega) n r0 x1 x2 M ρ hp3) dX12_write_11 lc_X12_411 li_X12_wins ls_X12_wins rfl hk1 rfl rfl (Nat.le_of_ble_eq_true rfl) (ao_hR (by omega) (by decide)) (ao_leC (me_X12_wins n r0 x1 x2 M ρ hp3) ((mX12_write n).2.1 r0 x1 x2 x3 p3.1 p3.2.1 p3.2.2 _ h)) (ao_leS (me_X12_wins n r0 x1 x2 M ρ hp3) ((mX12_write n).2.1 r0 x1 x2 x3 p3.1 p3.2.1 p3.2.2 _ h)) ?_
        exact ih.2.1 r0 x1 x2 x3 p3.1 p3.2.1 p3.2.2 _ h
    · intro r0 x1 x2 x3 s0 M ρ y h
      replace h := ao_ifF h (by decide)
      replace h := ao_ifT h rfl
      refine ao_if_eq 25 dX12_write_14 (by decide) (fun c4 => ?_) (fun c4 => ?_)
      · replace h := ao_ifT h c4
        refine ao_iconst (v := 0) dX12_write_25 (by decide) ?_
        cases h
        exact ao_ireturn dX12_write_26 rfl rfl ⟨rfl, rfl⟩
      · replace h := ao_ifF h c4
        refine ao_aload_n 0 dX12_write_17 rfl rfl ?_
        refine ao_iload_n 1 dX12_write_18 rfl rfl ?_
        obtain ⟨hk5, h⟩ := ao_some h
        obtain ⟨p6, hp6, h⟩ := ao_bind h
        refine ba_callVi r0 12 (q := (RX12, TX12, 83)) [.int x1] (aX12_goesOn (d - 1) (by omega) n r0 x1 M ρ hp6) dX12_write_19 lc_X12_408 li_X12_goesOn ls_X12_goesOn rfl hk5 rfl rfl (Nat.le_of_ble_eq_true rfl) (ao_hR (by omega) (by decide)) (ao_leC (me_X12_goesOn n r0 x1 M ρ hp6) ((mX12_write n).2.2.1 r0 x1 x2 x3 p6.1 p6.2.1 p6.2.2 _ h)) (ao_leS (me_X12_goesOn n r0 x1 M ρ hp6) ((mX12_write n).2.2.1 r0 x1 x2 x3 p6.1 p6.2.1 p6.2.2 _ h)) ?_
        exact ih.2.2.1 r0 x1 x2 x3 p6.1 p6.2.1 p6.2.2 _ h
    · intro r0 x1 x2 x3 s0 M ρ y h
      replace h := ao_ifF h (by decide)
      replace h := ao_ifF h (by decide)
      replace h := ao_ifT h rfl
      refine ao_if_ne 27 dX12_write_22 (by decide) (fun c7 => ?_) (fun c7 => ?_)
      · replace h := ao_ifF h c7
        exact ih.2.2.2.1 r0 x1 x2 x3 M ρ _ h
      · replace h := ao_ifT h c7
        refine ao_iconst (v := 0) dX12_write_25 (by decide) ?_
        cases h
        exact ao_ireturn dX12_write_26 rfl rfl ⟨rfl, rfl⟩
    · intro r0 x1 x2 x3 M ρ y h
      replace h := ao_ifF h (by decide)
      replace h := ao_ifF h (by decide)
      replace h := ao_ifF h (by decide)
      replace h := ao_ifT h rfl
      refine ao_aload_n 0 dX12_write_27 rfl rfl ?_
      refine ao_iload_n 1 dX12_write_28 rfl rfl ?_
      refine ao_aload_n 0 dX12_write_29 rfl rfl ?_
      obtain ⟨hk8, h⟩ := ao_some h
      obtain ⟨j9, hj9, h⟩ := ao_bind h
      refine an_getR r0 12 34 (q := (RX12, TX12, 83)) dX12_write_30 rfl hk8 (Nat.le_of_ble_eq_true rfl) rfl lf_X12_202 hj9 ?_
      refine ao_iload_n 1 dX12_write_33 rfl rfl ?_
      obtain ⟨hk10, h⟩ := ao_some h
      obtain ⟨hb11, h⟩ := ao_some h
      refine an_iaload j9 dX12_write_34 hk10 hb11 ?_
      refine ao_iconst (v := 1) dX12_write_35 (by decide) ?_
      refine ao_isub dX12_write_36 ?_
      refine ao_iload_n 2 dX12_write_37 rfl rfl ?_
      obtain ⟨p12, hp12, h⟩ := ao_bind h
      refine an_callVi r0 12 (q := (RX12, TX12, 83)) [.int x1, .int ((M j9 x1.toNatClampNeg) - (1 : Int32)), .int x2] (aX12_cell (d - 1) (by omega) r0 x1 ((M j9 x1.toNatClampNeg) - (1 : Int32)) x2 M ρ hp12) dX12_write_38 lc_X12_357 li_X12_cell ls_X12_cell rfl hk8 rfl rfl (Nat.le_of_ble_eq_true rfl) (ao_hR (by omega) (by decide)) ?_
      refine an_topi (fun v13 hv13 => ?_)
      replace h := ao_letD h hv13
      refine ao_istore 4 (lo' := [some (.ref (Γ.2.2.2 + r0)), some (.int x1), some (.int x2), some (.int x3), some (.int v13)]) dX12_write_41 (Nat.le_of_ble_eq_true rfl) rfl ?_
      refine ao_aload_n 0 dX12_write_43 rfl rfl ?_
      obtain ⟨p14, hp14, h⟩ := ao_bind h
      refine an_callVi r0 12 (q := (RX12, TX12, 83)) [] (aX12_isEager (d - 1) (by omega) _ r0 p12.2 ρ hp14) dX12_write_44 lc_X12_369 li_X12_isEager ls_X12_isEager rfl hk8 rfl rfl (Nat.le_of_ble_eq_true rfl) (ao_hR (by omega) (by decide)) ?_
      refine ao_if_ne 68 dX12_write_47 (by decide) (fun c15 => ?_) (fun c15 => ?_)
      · replace h := ao_ifF h c15
        refine ao_aload_n 0 dX12_write_68 rfl rfl ?_
        obtain ⟨j16, hj16, h⟩ := ao_bind h
        refine an_getR r0 12 56 (q := (RX12, TX12, 83)) dX12_write_69 rfl hk8 (Nat.le_of_ble_eq_true rfl) rfl lf_X12_269 hj16 ?_
        refine ao_iload 4 dX12_write_72 rfl ?_
        obtain ⟨hk17, h⟩ := ao_some h
        obtain ⟨hb18, h⟩ := ao_some h
        refine an_zaload j16 dX12_write_74 hk17 hb18 ?_
        refine ao_if_ne 99 dX12_write_75 (by decide) (fun c19 => ?_) (fun c19 => ?_)
        · replace h := ao_ifF h c19
          exact ih.2.2.2.2 r0 x1 x2 x3 v13 p14.2 ρ _ h
        · replace h := ao_ifT h c19
          refine ao_aload_n 0 dX12_write_78 rfl rfl ?_
          refine an_getR r0 12 56 (q := (RX12, TX12, 83)) dX12_write_79 rfl hk8 (Nat.le_of_ble_eq_true rfl) rfl lf_X12_269 hj16 ?_
          refine ao_iload 4 dX12_write_82 rfl ?_
          refine ao_iconst (v := 1) dX12_write_84 (by decide) ?_
          refine an_zastore j16 dX12_write_85 hk17 hb18 rfl (fun M20 hM20 => ?_)
          replace h := ao_letD h hM20
          refine ao_aload_n 0 dX12_write_86 rfl rfl ?_
          obtain ⟨j21, hj21, h⟩ := ao_bind h
          refine an_getR r0 12 60 (q := (RX12, TX12, 83)) dX12_write_87 rfl hk8 (Nat.le_of_ble_eq_true rfl) rfl lf_X12_281 hj21 ?_
          refine ao_iload 4 dX12_write_90 rfl ?_
          refine ao_aload_n 0 dX12_write_92 rfl rfl ?_
          obtain ⟨j22, hj22, h⟩ := ao_bind h
          refine an_getR r0 12 17 (q := (RX12, TX12, 83)) dX12_write_93 rfl hk8 (Nat.le_of_ble_eq_true rfl) rfl lf_X12_151 hj22 ?_
          refine ao_iload_n 2 dX12_write_96 rfl rfl ?_
          obtain ⟨hk23, h⟩ := ao_some h
          obtain ⟨hb24, h⟩ := ao_some h
          refine an_iaload j22 dX12_write_97 hk23 hb24 ?_
          obtain ⟨hk25, h⟩ := ao_some h
          obtain ⟨hb26, h⟩ := ao_some h
          refine an_iastore j21 dX12_write_98 hk25 hb26 (fun M27 hM27 => ?_)
          replace h := ao_letD h hM27
          exact ih.2.2.2.2 r0 x1 x2 x3 v13 M27 ρ _ h
      · replace h := ao_ifT h c15
        refine ao_aload_n 0 dX12_write_50 rfl rfl ?_
        obtain ⟨j28, hj28, h⟩ := ao_bind h
        refine an_getR r0 12 56 (q := (RX12, TX12, 83)) dX12_write_51 rfl hk8 (Nat.le_of_ble_eq_true rfl) rfl lf_X12_269 hj28 ?_
        refine ao_iload 4 dX12_write_54 rfl ?_
        refine ao_iconst (v := 1) dX12_write_56 (by decide) ?_
        obtain ⟨hk29, h⟩ := ao_some h
        obtain ⟨hb30, h⟩ := ao_some h
        refine an_zastore j28 dX12_write_57 hk29 hb30 rfl (fun M31 hM31 => ?_)
        replace h := ao_letD h hM31
        refine ao_aload_n 0 dX12_write_58 rfl rfl ?_
        obtain ⟨j32, hj32, h⟩ := ao_bind h
        refine an_getR r0 12 60 (q := (RX12, TX12, 83)) dX12_write_59 rfl hk8 (Nat.le_of_ble_eq_true rfl) rfl lf_X12_281 hj32 ?_
        refine ao_iload 4 dX12_write_62 rfl ?_
        refine ao_iload_n 3 dX12_write_64 rfl rfl ?_
        obtain ⟨hk33, h⟩ := ao_some h
        obtain ⟨hb34, h⟩ := ao_some h
        refine an_iastore j32 dX12_write_65 hk33 hb34 (fun M35 hM35 => ?_)
        replace h := ao_letD h hM35
        refine ao_iconst (v := 1) dX12_write_66 (by decide) ?_
        cases h
        exact ao_ireturn dX12_write_67 rfl rfl ⟨rfl, rfl⟩
    · intro r0 x1 x2 x3 x4 M ρ y h
      replace h := ao_ifF h (by decide)
      replace h := ao_ifF h (by decide)
      replace h := ao_ifF h (by decide)
      replace h := ao_ifF h (by decide)
      replace h := ao_ifT h rfl
      refine ao_aload_n 0 dX12_write_99 rfl rfl ?_
      obtain ⟨hk36, h⟩ := ao_some h
      obtain ⟨j37, hj37, h⟩ := ao_bind h
      refine an_getR r0 12 19 (q := (RX12, TX12, 83)) dX12_write_100 rfl hk36 (Nat.le_of_ble_eq_true rfl) rfl lf_X12_177 hj37 ?_
      refine ao_iload_n 2 dX12_write_103 rfl rfl ?_
      refine ao_iload_n 1 dX12_write_104 rfl rfl ?_
      obtain ⟨hk38, h⟩ := ao_some h
      obtain ⟨hb39, h⟩ := ao_some h
      refine an_iastore j37 dX12_write_105 hk38 hb39 (fun M40 hM40 => ?_)
      replace h := ao_letD h hM40
      refine ao_aload_n 0 dX12_write_106 rfl rfl ?_
      obtain ⟨j41, hj41, h⟩ := ao_bind h
      refine an_getR r0 12 17 (q := (RX12, TX12, 83)) dX12_write_107 rfl hk36 (Nat.le_of_ble_eq_true rfl) rfl lf_X12_151 hj41 ?_
      refine ao_iload_n 2 dX12_write_110 rfl rfl ?_
      refine ao_iload_n 3 dX12_write_111 rfl rfl ?_
      obtain ⟨hk42, h⟩ := ao_some h
      obtain ⟨hb43, h⟩ := ao_some h
      refine an_iastore j41 dX12_write_112 hk42 hb43 (fun M44 hM44 => ?_)
      replace h := ao_letD h hM44
      refine ao_iconst (v := 1) dX12_write_113 (by decide) ?_
      cases h
      exact ao_ireturn dX12_write_114 rfl rfl ⟨rfl, rfl⟩
theorem me_X12_write (n : Nat) (r0 : Nat) (x1 : Int32) (x2 : Int32) (x3 : Int32) (M : ao_M) (ρ : ao_H) {y : Int32 × ao_S} (h : gX12_write n r0 x1 x2 x3 M ρ = some y) : ao_le ρ y.2.2 := (mX12_write n).1 r0 x1 x2 x3 M ρ y h
set_option maxRecDepth 100000 in
set_option maxHeartbeats 4000000 in
theorem aX12_write {Γ : ao_C} (d : Nat) (hd : 6 ≤ d) (n : Nat) (r0 : Nat) (x1 : Int32) (x2 : Int32) (x3 : Int32) (M : ao_M) (ρ : ao_H) {y : Int32 × ao_S} (h : gX12_write n r0 x1 x2 x3 M ρ = some y) : ao_A Γ uX12_write d (ao_dc ρ y.2.2) (ao_ds ρ y.2.2) [.ref (Γ.2.2.2 + r0), .int x1, .int x2, .int x3] (M, ρ) (ao_QI y) := by
  refine ao_of (by decide) (ao_cat1 (Nat.le_of_ble_eq_true rfl)) (Nat.le_of_ble_eq_true rfl) ?_
  show ao_W Γ uX12_write (ao_rm d (ao_dc ρ y.2.2) (ao_ds ρ y.2.2)) (ao_Q Γ (ao_QI y) (ao_dc ρ y.2.2) (ao_ds ρ y.2.2)) (ao_dc ρ y.2.2) (ao_ds ρ y.2.2) 0 [some (.ref (Γ.2.2.2 + r0)), some (.int x1), some (.int x2), some (.int x3), none] [] (M, ρ)
  exact (wX12_write d hd _ _ n).1 r0 x1 x2 x3 M ρ y h

abbrev uX12_hasWrites : ao_Mi := (yX12_hasWrites, cX12_hasWrites, 3, (some .boolean), [])
def fX12_hasWrites : Nat → Nat → Nat → Int32 → Int32 →  ao_M → ao_H → Option (Int32 × ao_M)
  | 0, _, _, _, _, _, _ => none
  | n + 1, pc, r0, x1, x2, M, ρ =>
    if pc = 0 then
      fX12_hasWrites n 2 r0 x1 (0 : Int32) M ρ
    else if pc = 2 then
      if (26 : Int32) ≤ x2 then
        some ((0 : Int32), M)
      else
        if ρ.2.1 r0 = 22 then
        (ρ.1 r0 56).bind fun j3 =>
        (gX12_cell r0 x1 (0 : Int32) x2 M ρ).bind fun p4 =>
        if ρ.2.1 j3 = 2 then
        if ¬ (p4.1 < 0 ∨ ρ.2.2.1 j3 ≤ p4.1.toNatClampNeg) then
        if (p4.2 j3 p4.1.toNatClampNeg) = 0 then
          ao_let (x2 + (1 : Int32)) fun v8 =>
          fX12_hasWrites n 2 r0 x1 v8 p4.2 ρ
        else
          some ((1 : Int32), p4.2)
        else none
        else none
        else none
    else none
def gX12_hasWrites (n : Nat) (r0 : Nat) (x1 : Int32) (M : ao_M) (ρ : ao_H) : Option (Int32 × ao_M) := fX12_hasWrites n 0 r0 x1 0 M ρ
set_option maxRecDepth 100000 in
set_option maxHeartbeats 4000000 in
theorem wX12_hasWrites {Γ : ao_C} {ρ : ao_H} (d : Nat) (hd : 1 ≤ d) : ∀ n : Nat, (∀ (r0 : Nat) (x1 : Int32) (M : ao_M) (y : Int32 × ao_M), fX12_hasWrites n 0 r0 x1 0 M ρ = some y → ao_W Γ uX12_hasWrites (ao_rm d 0 0) (ao_Q Γ (ao_PI ρ y) 0 0) 0 0 0 [some (.ref (Γ.2.2.2 + r0)), some (.int x1), none] [] (M, ρ)) ∧ (∀ (r0 : Nat) (x1 : Int32) (x2 : Int32) (M : ao_M) (y : Int32 × ao_M), fX12_hasWrites n 2 r0 x1 x2 M ρ = some y → ao_W Γ uX12_hasWrites (ao_rm d 0 0) (ao_Q Γ (ao_PI ρ y) 0 0) 0 0 2 [some (.ref (Γ.2.2.2 + r0)), some (.int x1), some (.int x2)] [] (M, ρ)) := by
  intro n
  induction n with
  | zero => exact ⟨fun _ _ _ _ h => ao_no h, fun _ _ _ _ _ h => ao_no h⟩
  | succ n ih =>
    refine ⟨?_, ?_⟩
    · intro r0 x1 M y h
      replace h := ao_ifT h rfl
      refine ao_iconst (v := 0) dX12_hasWrites_0 (by decide) ?_
      refine ao_istore_n 2 (lo' := [some (.ref (Γ.2.2.2 + r0)), some (.int x1), some (.int (0 : Int32))]) dX12_hasWrites_1 rfl (Nat.le_of_ble_eq_true rfl) rfl ?_
      exact ih.2 r0 x1 (0 : Int32) M _ h
    · intro r0 x1 x2 M y h
      replace h := ao_ifF h (by decide)
      replace h := ao_ifT h rfl
      refine ao_iload_n 2 dX12_hasWrites_2 rfl rfl ?_
      refine ao_bipush (v := 26) dX12_hasWrites_3 (by decide) ?_
      refine ao_icmp_ge 31 dX12_hasWrites_5 (by decide) (fun c1 => ?_) (fun c1 => ?_)
      · replace h := ao_ifT h c1
        refine ao_iconst (v := 0) dX12_hasWrites_31 (by decide) ?_
        cases h
        exact ao_ireturn dX12_hasWrites_32 rfl rfl ⟨rfl, rfl⟩
      · replace h := ao_ifF h c1
        refine ao_aload_n 0 dX12_hasWrites_8 rfl rfl ?_
        obtain ⟨hk2, h⟩ := ao_some h
        obtain ⟨j3, hj3, h⟩ := ao_bind h
        refine an_getR r0 12 56 (q := (RX12, TX12, 83)) dX12_hasWrites_9 rfl hk2 (Nat.le_of_ble_eq_true rfl) rfl lf_X12_269 hj3 ?_
        refine ao_aload_n 0 dX12_hasWrites_12 rfl rfl ?_
        refine ao_iload_n 1 dX12_hasWrites_13 rfl rfl ?_
        refine ao_iconst (v := 0) dX12_hasWrites_14 (by decide) ?_
        refine ao_iload_n 2 dX12_hasWrites_15 rfl rfl ?_
        obtain ⟨p4, hp4, h⟩ := ao_bind h
        refine an_callVi r0 12 (q := (RX12, TX12, 83)) [.int x1, .int (0 : Int32), .int x2] (aX12_cell (d - 1) (by omega) r0 x1 (0 : Int32) x2 M ρ hp4) dX12_hasWrites_16 lc_X12_357 li_X12_cell ls_X12_cell rfl hk2 rfl rfl (Nat.le_of_ble_eq_true rfl) (ao_hR (by omega) (by decide)) ?_
        obtain ⟨hk5, h⟩ := ao_some h
        obtain ⟨hb6, h⟩ := ao_some h
        refine an_zaload j3 dX12_hasWrites_19 hk5 hb6 ?_
        refine ao_if_eq 25 dX12_hasWrites_20 (by decide) (fun c7 => ?_) (fun c7 => ?_)
        · replace h := ao_ifT h c7
          obtain ⟨v8, hv8⟩ : ∃ z : Int32, z = x2 + (1 : Int32) := ⟨_, rfl⟩
          replace h := ao_letD h hv8
          refine ao_iinc 2 (v := v8) (lo' := [some (.ref (Γ.2.2.2 + r0)), some (.int x1), some (.int v8)]) dX12_hasWrites_25 rfl (by rw [hv8]; rfl) (Nat.le_of_ble_eq_true rfl) rfl ?_
          refine ao_goto 2 dX12_hasWrites_28 (by decide) ?_
          exact ih.2 r0 x1 v8 p4.2 _ h
        · replace h := ao_ifF h c7
          refine ao_iconst (v := 1) dX12_hasWrites_23 (by decide) ?_
          cases h
          exact ao_ireturn dX12_hasWrites_24 rfl rfl ⟨rfl, rfl⟩
set_option maxRecDepth 100000 in
set_option maxHeartbeats 4000000 in
theorem aX12_hasWrites {Γ : ao_C} (d : Nat) (hd : 1 ≤ d) (n : Nat) (r0 : Nat) (x1 : Int32) (M : ao_M) (ρ : ao_H) {y : Int32 × ao_M} (h : gX12_hasWrites n r0 x1 M ρ = some y) : ao_A Γ uX12_hasWrites d 0 0 [.ref (Γ.2.2.2 + r0), .int x1] (M, ρ) (ao_PI ρ y) := by
  refine ao_of (by decide) (ao_cat1 (Nat.le_of_ble_eq_true rfl)) (Nat.le_of_ble_eq_true rfl) ?_
  show ao_W Γ uX12_hasWrites (ao_rm d 0 0) (ao_Q Γ (ao_PI ρ y) 0 0) 0 0 0 [some (.ref (Γ.2.2.2 + r0)), some (.int x1), none] [] (M, ρ)
  exact (wX12_hasWrites d hd n).1 r0 x1 M y h

abbrev uX12_mayEnd : ao_Mi := (yX12_mayEnd, cX12_mayEnd, 6, (some .boolean), [])
def fX12_mayEnd : Nat → Nat → Nat → Int32 → Int32 → Int32 → Int32 → Int32 → Int32 →  ao_M → ao_H → Option (Int32 × ao_S)
  | 0, _, _, _, _, _, _, _, _, _, _ => none
  | n + 1, pc, r0, x1, x2, x3, x4, x5, s0, M, ρ =>
    if pc = 0 then
      if ρ.2.1 r0 = 22 then
      if (M r0 27) = (4 : Int32) then
        some ((1 : Int32), M, ρ)
      else
        if (M r0 27) = (3 : Int32) then
          fX12_mayEnd n 20 r0 x1 (-1 : Int32) 0 0 0 0 M ρ
        else
          (gX12_hasWrites n r0 x1 M ρ).bind fun p4 =>
          if p4.1 = 0 then
            some ((1 : Int32), p4.2, ρ)
          else
            if (p4.2 r0 27) = (1 : Int32) then
              (ρ.1 r0 38).bind fun j7 =>
              if ρ.2.1 j7 = 0 then
              if ¬ (x1 < 0 ∨ ρ.2.2.1 j7 ≤ x1.toNatClampNeg) then
              if (p4.2 r0 26) = (p4.2 j7 x1.toNatClampNeg) then
                some ((1 : Int32), p4.2, ρ)
              else
                fX12_mayEnd n 175 r0 x1 0 0 0 0 0 p4.2 ρ
              else none
              else none
            else
              fX12_mayEnd n 175 r0 x1 0 0 0 0 0 p4.2 ρ
      else none
    else if pc = 20 then
      fX12_mayEnd n 25 r0 x1 x2 (-1 : Int32) (0 : Int32) 0 0 M ρ
    else if pc = 25 then
      if (26 : Int32) ≤ x4 then
        if 0 ≤ x3 then
          if ρ.2.1 r0 = 22 then
          (ρ.1 r0 59).bind fun j14 =>
          (gX12_cell r0 x1 (0 : Int32) x3 M ρ).bind fun p15 =>
          if ρ.2.1 j14 = 0 then
          if ¬ (p15.1 < 0 ∨ ρ.2.2.1 j14 ≤ p15.1.toNatClampNeg) then
          ao_let (p15.2 j14 p15.1.toNatClampNeg) fun v18 =>
          (gX12_wins n r0 x1 x3 p15.2 ρ).bind fun p19 =>
          fX12_mayEnd n 128 r0 x1 v18 x3 x4 0 p19.1 p19.2.1 p19.2.2
          else none
          else none
          else none
        else
          if ρ.2.1 r0 = 22 then
          (gX12_goesOn n r0 x1 M ρ).bind fun p21 =>
          fX12_mayEnd n 141 r0 x1 x2 x3 x4 0 p21.1 p21.2.1 p21.2.2
          else none
      else
        if ρ.2.1 r0 = 22 then
        (gX12_cell r0 x1 (0 : Int32) x4 M ρ).bind fun p23 =>
        ao_let p23.1 fun v24 =>
        (ρ.1 r0 55).bind fun j25 =>
        if ρ.2.1 j25 = 2 then
        if ¬ (v24 < 0 ∨ ρ.2.2.1 j25 ≤ v24.toNatClampNeg) then
        if (p23.2 j25 v24.toNatClampNeg) = 0 then
          fX12_mayEnd n 96 r0 x1 x2 x3 x4 v24 0 p23.2 ρ
        else
          if x2 < 0 then
            fX12_mayEnd n 67 r0 x1 x2 x3 x4 v24 0 p23.2 ρ
          else
            (ρ.1 r0 59).bind fun j30 =>
            if ρ.2.1 j30 = 0 then
            if ¬ (v24 < 0 ∨ ρ.2.2.1 j30 ≤ v24.toNatClampNeg) then
            if (p23.2 j30 v24.toNatClampNeg) ≤ x2 then
              fX12_mayEnd n 96 r0 x1 x2 x3 x4 v24 0 p23.2 ρ
            else
              fX12_mayEnd n 67 r0 x1 x2 x3 x4 v24 0 p23.2 ρ
            else none
            else none
        else none
        else none
        else none
    else if pc = 67 then
      if x3 < 0 then
        fX12_mayEnd n 93 r0 x1 x2 x3 x4 x5 0 M ρ
      else
        if ρ.2.1 r0 = 22 then
        (ρ.1 r0 59).bind fun j36 =>
        if ρ.2.1 j36 = 0 then
        if ¬ (x5 < 0 ∨ ρ.2.2.1 j36 ≤ x5.toNatClampNeg) then
        (gX12_cell r0 x1 (0 : Int32) x3 M ρ).bind fun p39 =>
        if ¬ (p39.1 < 0 ∨ ρ.2.2.1 j36 ≤ p39.1.toNatClampNeg) then
        if (p39.2 j36 p39.1.toNatClampNeg) ≤ (M j36 x5.toNatClampNeg) then
          fX12_mayEnd n 96 r0 x1 x2 x3 x4 x5 0 p39.2 ρ
        else
          fX12_mayEnd n 93 r0 x1 x2 x3 x4 x5 0 p39.2 ρ
        else none
        else none
        else none
        else none
    else if pc = 93 then
      fX12_mayEnd n 96 r0 x1 x2 x4 x4 x5 0 M ρ
    else if pc = 96 then
      ao_let (x4 + (1 : Int32)) fun v42 =>
      fX12_mayEnd n 25 r0 x1 x2 x3 v42 0 0 M ρ
    else if pc = 128 then
      if s0 = 0 then
        some ((0 : Int32), M, ρ)
      else
        fX12_mayEnd n 20 r0 x1 x2 0 0 0 0 M ρ
    else if pc = 141 then
      if s0 = 0 ∨ s0 = 1 then
      some (s0, M, ρ)
      else none
    else if pc = 175 then
      if ρ.2.1 r0 = 22 then
      (gX12_goesOn n r0 x1 M ρ).bind fun p46 =>
      fX12_mayEnd n 180 r0 x1 0 0 0 0 p46.1 p46.2.1 p46.2.2
      else none
    else if pc = 180 then
      if s0 = 0 ∨ s0 = 1 then
      some (s0, M, ρ)
      else none
    else none
def gX12_mayEnd (n : Nat) (r0 : Nat) (x1 : Int32) (M : ao_M) (ρ : ao_H) : Option (Int32 × ao_S) := fX12_mayEnd n 0 r0 x1 0 0 0 0 0 M ρ
set_option maxRecDepth 100000 in
set_option maxHeartbeats 4000000 in
theorem mX12_mayEnd : ∀ n : Nat, (∀ (r0 : Nat) (x1 : Int32) (M : ao_M) (ρ : ao_H) (y : Int32 × ao_S), fX12_mayEnd n 0 r0 x1 0 0 0 0 0 M ρ = some y → ao_le ρ y.2.2) ∧ (∀ (r0 : Nat) (x1 : Int32) (x2 : Int32) (M : ao_M) (ρ : ao_H) (y : Int32 × ao_S), fX12_mayEnd n 20 r0 x1 x2 0 0 0 0 M ρ = some y → ao_le ρ y.2.2) ∧ (∀ (r0 : Nat) (x1 : Int32) (x2 : Int32) (x3 : Int32) (x4 : Int32) (M : ao_M) (ρ : ao_H) (y : Int32 × ao_S), fX12_mayEnd n 25 r0 x1 x2 x3 x4 0 0 M ρ = some y → ao_le ρ y.2.2) ∧ (∀ (r0 : Nat) (x1 : Int32) (x2 : Int32) (x3 : Int32) (x4 : Int32) (x5 : Int32) (M : ao_M) (ρ : ao_H) (y : Int32 × ao_S), fX12_mayEnd n 67 r0 x1 x2 x3 x4 x5 0 M ρ = some y → ao_le ρ y.2.2) ∧ (∀ (r0 : Nat) (x1 : Int32) (x2 : Int32) (x3 : Int32) (x4 : Int32) (x5 : Int32) (M : ao_M) (ρ : ao_H) (y : Int32 × ao_S), fX12_mayEnd n 93 r0 x1 x2 x3 x4 x5 0 M ρ = some y → ao_le ρ y.2.2) ∧ (∀ (r0 : Nat) (x1 : Int32) (x2 : Int32) (x3 : Int32) (x4 : Int32) (x5 : Int32) (M : ao_M) (ρ : ao_H) (y : Int32 × ao_S), fX12_mayEnd n 96 r0 x1 x2 x3 x4 x5 0 M ρ = some y → ao_le ρ y.2.2) ∧ (∀ (r0 : Nat) (x1 : Int32) (x2 : Int32) (x3 : Int32) (x4 : Int32) (s0 : Int32) (M : ao_M) (ρ : ao_H) (y : Int32 × ao_S), fX12_mayEnd n 128 r0 x1 x2 x3 x4 0 s0 M ρ = some y → ao_le ρ y.2.2) ∧ (∀ (r0 : Nat) (x1 : Int32) (x2 : Int32) (x3 : Int32) (x4 : Int32) (s0 : Int32) (M : ao_M) (ρ : ao_H) (y : Int32 × ao_S), fX12_mayEnd n 141 r0 x1 x2 x3 x4 0 s0 M ρ = some y → ao_le ρ y.2.2) ∧ (∀ (r0 : Nat) (x1 : Int32) (M : ao_M) (ρ : ao_H) (y : Int32 × ao_S), fX12_mayEnd n 175 r0 x1 0 0 0 0 0 M ρ = some y → ao_le ρ y.2.2) ∧ (∀ (r0 : Nat) (x1 : Int32) (s0 : Int32) (M : ao_M) (ρ : ao_H) (y : Int32 × ao_S), fX12_mayEnd n 180 r0 x1 0 0 0 0 s0 M ρ = some y → ao_le ρ y.2.2) := by
  intro n
  induction n with
  | zero => exact ⟨fun _ _ _ _ _ h => ao_no h, fun _ _ _ _ _ _ h => ao_no h, fun _ _ _ _ _ _ _ _ h => ao_no h, fun _ _ _ _ _ _ _ _ _ h => ao_no h, fun _ _ _ _ _ _ _ _ _ h => ao_no h, fun _ _ _ _ _ _ _ _ _ h => ao_no h, fun _ _ _ _ _ _ _ _ _ h => ao_no h, fun _ _ _ _ _ _ _ _ _ h => ao_no h, fun _ _ _ _ _ h => ao_no h, fun _ _ _ _ _ _ h => ao_no h⟩
  | succ n ih =>
    refine ⟨?_, ?_, ?_, ?_, ?_, ?_, ?_, ?_, ?_, ?_⟩
    · intro r0 x1 M ρ y h
      replace h := ao_ifT h rfl
      obtain ⟨-, h⟩ := ao_some h
      rcases ao_ifC h with h | h
      · cases h
        exact ao_le_rf _
      · rcases ao_ifC h with h | h
        · exact ih.2.1 r0 x1 (-1 : Int32) M ρ _ h
        · obtain ⟨p4, hp4, h⟩ := ao_bind h
          rcases ao_ifC h with h | h
          · cases h
            exact ao_le_rf _
          · rcases ao_ifC h with h | h
            · obtain ⟨j7, hj7, h⟩ := ao_bind h
              obtain ⟨-, h⟩ := ao_some h
              obtain ⟨-, h⟩ := ao_some h
              rcases ao_ifC h with h | h
              · cases h
                exact ao_le_rf _
              · exact ih.2.2.2.2.2.2.2.2.1 r0 x1 p4.2 ρ _ h
            · exact ih.2.2.2.2.2.2.2.2.1 r0 x1 p4.2 ρ _ h
    · intro r0 x1 x2 M ρ y h
      replace h := ao_ifF h (by decide)
      replace h := ao_ifT h rfl
      exact ih.2.2.1 r0 x1 x2 (-1 : Int32) (0 : Int32) M ρ _ h
    · intro r0 x1 x2 x3 x4 M ρ y h
      replace h := ao_ifF h (by decide)
      replace h := ao_ifF h (by decide)
      replace h := ao_ifT h rfl
      rcases ao_ifC h with h | h
      · rcases ao_ifC h with h | h
        · obtain ⟨-, h⟩ := ao_some h
          obtain ⟨j14, hj14, h⟩ := ao_bind h
          obtain ⟨p15, hp15, h⟩ := ao_bind h
          obtain ⟨-, h⟩ := ao_some h
          obtain ⟨-, h⟩ := ao_some h
          replace h := ao_letD h rfl
          generalize (p15.2 j14 p15.1.toNatClampNeg) = v18 at h
          obtain ⟨p19, hp19, h⟩ := ao_bind h
          exact ao_le_tr (me_X12_wins n r0 x1 x3 p15.2 ρ hp19) (ih.2.2.2.2.2.2.1 r0 x1 v18 x3 x4 p19.1 p19.2.1 p19.2.2 _ h)
        · obtain ⟨-, h⟩ := ao_some h
          obtain ⟨p21, hp21, h⟩ := ao_bind h
          exact ao_le_tr (me_X12_goesOn n r0 x1 M ρ hp21) (ih.2.2.2.2.2.2.2.1 r0 x1 x2 x3 x4 p21.1 p21.2.1 p21.2.2 _ h)
      · obtain ⟨-, h⟩ := ao_some h
        obtain ⟨p23, hp23, h⟩ := ao_bind h
        replace h := ao_letD h rfl
        generalize p23.1 = v24 at h
        obtain ⟨j25, hj25, h⟩ := ao_bind h
        obtain ⟨-, h⟩ := ao_some h
        obtain ⟨-, h⟩ := ao_some h
        rcases ao_ifC h with h | h
        · exact ih.2.2.2.2.2.1 r0 x1 x2 x3 x4 v24 p23.2 ρ _ h
        · rcases ao_ifC h with h | h
          · exact ih.2.2.2.1 r0 x1 x2 x3 x4 v24 p23.2 ρ _ h
          · obtain ⟨j30, hj30, h⟩ := ao_bind h
            obtain ⟨-, h⟩ := ao_some h
            obtain ⟨-, h⟩ := ao_some h
            rcases ao_ifC h with h | h
            · exact ih.2.2.2.2.2.1 r0 x1 x2 x3 x4 v24 p23.2 ρ _ h
            · exact ih.2.2.2.1 r0 x1 x2 x3 x4 v24 p23.2 ρ _ h
    · intro r0 x1 x2 x3 x4 x5 M ρ y h
      replace h := ao_ifF h (by decide)
      replace h := ao_ifF h (by decide)
      replace h := ao_ifF h (by decide)
      replace h := ao_ifT h rfl
      rcases ao_ifC h with h | h
      · exact ih.2.2.2.2.1 r0 x1 x2 x3 x4 x5 M ρ _ h
      · obtain ⟨-, h⟩ := ao_some h
        obtain ⟨j36, hj36, h⟩ := ao_bind h
        obtain ⟨-, h⟩ := ao_some h
        obtain ⟨-, h⟩ := ao_some h
        obtain ⟨p39, hp39, h⟩ := ao_bind h
        obtain ⟨-, h⟩ := ao_some h
        rcases ao_ifC h with h | h
        · exact ih.2.2.2.2.2.1 r0 x1 x2 x3 x4 x5 p39.2 ρ _ h
        · exact ih.2.2.2.2.1 r0 x1 x2 x3 x4 x5 p39.2 ρ _ h
    · intro r0 x1 x2 x3 x4 x5 M ρ y h
      replace h := ao_ifF h (by decide)
      replace h := ao_ifF h (by decide)
      replace h := ao_ifF h (by decide)
      replace h := ao_ifF h (by decide)
      replace h := ao_ifT h rfl
      exact ih.2.2.2.2.2.1 r0 x1 x2 x4 x4 x5 M ρ _ h
    · intro r0 x1 x2 x3 x4 x5 M ρ y h
      replace h := ao_ifF h (by decide)
      replace h := ao_ifF h (by decide)
      replace h := ao_ifF h (by decide)
      replace h := ao_ifF h (by decide)
      replace h := ao_ifF h (by decide)
      replace h := ao_ifT h rfl
      replace h := ao_letD h rfl
      generalize (x4 + (1 : Int32)) = v42 at h
      exact ih.2.2.1 r0 x1 x2 x3 v42 M ρ _ h
    · intro r0 x1 x2 x3 x4 s0 M ρ y h
      replace h := ao_ifF h (by decide)
      replace h := ao_ifF h (by decide)
      replace h := ao_ifF h (by decide)
      replace h := ao_ifF h (by decide)
      replace h := ao_ifF h (by decide)
      replace h := ao_ifF h (by decide)
      replace h := ao_ifT h rfl
      rcases ao_ifC h with h | h
      · cases h
        exact ao_le_rf _
      · exact ih.2.1 r0 x1 x2 M ρ _ h
    · intro r0 x1 x2 x3 x4 s0 M ρ y h
      replace h := ao_ifF h (by decide)
      replace h := ao_ifF h (by decide)
      replace h := ao_ifF h (by decide)
      replace h := ao_ifF h (by decide)
      replace h := ao_ifF h (by decide)
      replace h := ao_ifF h (by decide)
      replace h := ao_ifF h (by decide)
      replace h := ao_ifT h rfl
      obtain ⟨-, h⟩ := ao_some h
      cases h
      exact ao_le_rf _
    · intro r0 x1 M ρ y h
      replace h := ao_ifF h (by decide)
      replace h := ao_ifF h (by decide)
      replace h := ao_ifF h (by decide)
      replace h := ao_ifF h (by decide)
      replace h := ao_ifF h (by decide)
      replace h := ao_ifF h (by decide)
      replace h := ao_ifF h (by decide)
      replace h := ao_ifF h (by decide)
      replace h := ao_ifT h rfl
      obtain ⟨-, h⟩ := ao_some h
      obtain ⟨p46, hp46, h⟩ := ao_bind h
      exact ao_le_tr (me_X12_goesOn n r0 x1 M ρ hp46) (ih.2.2.2.2.2.2.2.2.2 r0 x1 p46.1 p46.2.1 p46.2.2 _ h)
    · intro r0 x1 s0 M ρ y h
      replace h := ao_ifF h (by decide)
      replace h := ao_ifF h (by decide)
      replace h := ao_ifF h (by decide)
      replace h := ao_ifF h (by decide)
      replace h := ao_ifF h (by decide)
      replace h := ao_ifF h (by decide)
      replace h := ao_ifF h (by decide)
      replace h := ao_ifF h (by decide)
      replace h := ao_ifF h (by decide)
      replace h := ao_ifT h rfl
      obtain ⟨-, h⟩ := ao_some h
      cases h
      exact ao_le_rf _
set_option maxRecDepth 100000 in
set_option maxHeartbeats 4000000 in
theorem wX12_mayEnd {Γ : ao_C} (d : Nat) (hd : 6 ≤ d) (MC MS : Nat) : ∀ n : Nat, (∀ (r0 : Nat) (x1 : Int32) (M : ao_M) (ρ : ao_H) (y : Int32 × ao_S), fX12_mayEnd n 0 r0 x1 0 0 0 0 0 M ρ = some y → ao_W Γ uX12_mayEnd (ao_rm d MC MS) (ao_Q Γ (ao_QI y) MC MS) (ao_dc ρ y.2.2) (ao_ds ρ y.2.2) 0 [some (.ref (Γ.2.2.2 + r0)), some (.int x1), none, none, none, none] [] (M, ρ)) ∧ (∀ (r0 : Nat) (x1 : Int32) (x2 : Int32) (M : ao_M) (ρ : ao_H) (y : Int32 × ao_S), fX12_mayEnd n 20 r0 x1 x2 0 0 0 0 M ρ = some y → ao_W Γ uX12_mayEnd (ao_rm d MC MS) (ao_Q Γ (ao_QI y) MC MS) (ao_dc ρ y.2.2) (ao_ds ρ y.2.2) 20 [some (.ref (Γ.2.2.2 + r0)), some (.int x1), some (.int x2), none, none, none] [] (M, ρ)) ∧ (∀ (r0 : Nat) (x1 : Int32) (x2 : Int32) (x3 : Int32) (x4 : Int32) (M : ao_M) (ρ : ao_H) (y : Int32 × ao_S), fX12_mayEnd n 25 r0 x1 x2 x3 x4 0 0 M ρ = some y → ao_W Γ uX12_mayEnd (ao_rm d MC MS) (ao_Q Γ (ao_QI y) MC MS) (ao_dc ρ y.2.2) (ao_ds ρ y.2.2) 25 [some (.ref (Γ.2.2.2 + r0)), some (.int x1), some (.int x2), some (.int x3), some (.int x4), none] [] (M, ρ)) ∧ (∀ (r0 : Nat) (x1 : Int32) (x2 : Int32) (x3 : Int32) (x4 : Int32) (x5 : Int32) (M : ao_M) (ρ : ao_H) (y : Int32 × ao_S), fX12_mayEnd n 67 r0 x1 x2 x3 x4 x5 0 M ρ = some y → ao_W Γ uX12_mayEnd (ao_rm d MC MS) (ao_Q Γ (ao_QI y) MC MS) (ao_dc ρ y.2.2) (ao_ds ρ y.2.2) 67 [some (.ref (Γ.2.2.2 + r0)), some (.int x1), some (.int x2), some (.int x3), some (.int x4), some (.int x5)] [] (M, ρ)) ∧ (∀ (r0 : Nat) (x1 : Int32) (x2 : Int32) (x3 : Int32) (x4 : Int32) (x5 : Int32) (M : ao_M) (ρ : ao_H) (y : Int32 × ao_S), fX12_mayEnd n 93 r0 x1 x2 x3 x4 x5 0 M ρ = some y → ao_W Γ uX12_mayEnd (ao_rm d MC MS) (ao_Q Γ (ao_QI y) MC MS) (ao_dc ρ y.2.2) (ao_ds ρ y.2.2) 93 [some (.ref (Γ.2.2.2 + r0)), some (.int x1), some (.int x2), some (.int x3), some (.int x4), some (.int x5)] [] (M, ρ)) ∧ (∀ (r0 : Nat) (x1 : Int32) (x2 : Int32) (x3 : Int32) (x4 : Int32) (x5 : Int32) (M : ao_M) (ρ : ao_H) (y : Int32 × ao_S), fX12_mayEnd n 96 r0 x1 x2 x3 x4 x5 0 M ρ = some y → ao_W Γ uX12_mayEnd (ao_rm d MC MS) (ao_Q Γ (ao_QI y) MC MS) (ao_dc ρ y.2.2) (ao_ds ρ y.2.2) 96 [some (.ref (Γ.2.2.2 + r0)), some (.int x1), some (.int x2), some (.int x3), some (.int x4), some (.int x5)] [] (M, ρ)) ∧ (∀ (r0 : Nat) (x1 : Int32) (x2 : Int32) (x3 : Int32) (x4 : Int32) (s0 : Int32) (M : ao_M) (ρ : ao_H) (y : Int32 × ao_S), fX12_mayEnd n 128 r0 x1 x2 x3 x4 0 s0 M ρ = some y → ao_W Γ uX12_mayEnd (ao_rm d MC MS) (ao_Q Γ (ao_QI y) MC MS) (ao_dc ρ y.2.2) (ao_ds ρ y.2.2) 128 [some (.ref (Γ.2.2.2 + r0)), some (.int x1), some (.int x2), some (.int x3), some (.int x4), none] [.int s0] (M, ρ)) ∧ (∀ (r0 : Nat) (x1 : Int32) (x2 : Int32) (x3 : Int32) (x4 : Int32) (s0 : Int32) (M : ao_M) (ρ : ao_H) (y : Int32 × ao_S), fX12_mayEnd n 141 r0 x1 x2 x3 x4 0 s0 M ρ = some y → ao_W Γ uX12_mayEnd (ao_rm d MC MS) (ao_Q Γ (ao_QI y) MC MS) (ao_dc ρ y.2.2) (ao_ds ρ y.2.2) 141 [some (.ref (Γ.2.2.2 + r0)), some (.int x1), some (.int x2), some (.int x3), some (.int x4), none] [.int s0] (M, ρ)) ∧ (∀ (r0 : Nat) (x1 : Int32) (M : ao_M) (ρ : ao_H) (y : Int32 × ao_S), fX12_mayEnd n 175 r0 x1 0 0 0 0 0 M ρ = some y → ao_W Γ uX12_mayEnd (ao_rm d MC MS) (ao_Q Γ (ao_QI y) MC MS) (ao_dc ρ y.2.2) (ao_ds ρ y.2.2) 175 [some (.ref (Γ.2.2.2 + r0)), some (.int x1), none, none, none, none] [] (M, ρ)) ∧ (∀ (r0 : Nat) (x1 : Int32) (s0 : Int32) (M : ao_M) (ρ : ao_H) (y : Int32 × ao_S), fX12_mayEnd n 180 r0 x1 0 0 0 0 s0 M ρ = some y → ao_W Γ uX12_mayEnd (ao_rm d MC MS) (ao_Q Γ (ao_QI y) MC MS) (ao_dc ρ y.2.2) (ao_ds ρ y.2.2) 180 [some (.ref (Γ.2.2.2 + r0)), some (.int x1), none, none, none, none] [.int s0] (M, ρ)) := by
  intro n
  induction n with
  | zero => exact ⟨fun _ _ _ _ _ h => ao_no h, fun _ _ _ _ _ _ h => ao_no h, fun _ _ _ _ _ _ _ _ h => ao_no h, fun _ _ _ _ _ _ _ _ _ h => ao_no h, fun _ _ _ _ _ _ _ _ _ h => ao_no h, fun _ _ _ _ _ _ _ _ _ h => ao_no h, fun _ _ _ _ _ _ _ _ _ h => ao_no h, fun _ _ _ _ _ _ _ _ _ h => ao_no h, fun _ _ _ _ _ h => ao_no h, fun _ _ _ _ _ _ h => ao_no h⟩
  | succ n ih =>
    refine ⟨?_, ?_, ?_, ?_, ?_, ?_, ?_, ?_, ?_, ?_⟩
    · intro r0 x1 M ρ y h
      replace h := ao_ifT h rfl
      refine ao_aload_n 0 dX12_mayEnd_0 rfl rfl ?_
      obtain ⟨hk1, h⟩ := ao_some h
      refine an_getI r0 12 27 (q := (RX12, TX12, 83)) dX12_mayEnd_1 rfl hk1 (Nat.le_of_ble_eq_true rfl) rfl lf_X12_332 ?_
      refine ao_iconst (v := 4) dX12_mayEnd_4 (by decide) ?_
      refine ao_icmp_ne 10 dX12_mayEnd_5 (by decide) (fun c2 => ?_) (fun c2 => ?_)
      · replace h := ao_ifF h c2
        refine ao_aload_n 0 dX12_mayEnd_10 rfl rfl ?_
        refine an_getI r0 12 27 (q := (RX12, TX12, 83)) dX12_mayEnd_11 rfl hk1 (Nat.le_of_ble_eq_true rfl) rfl lf_X12_332 ?_
        refine ao_iconst (v := 3) dX12_mayEnd_14 (by decide) ?_
        refine ao_icmp_ne 142 dX12_mayEnd_15 (by decide) (fun c3 => ?_) (fun c3 => ?_)
        · replace h := ao_ifF h c3
          refine ao_aload_n 0 dX12_mayEnd_142 rfl rfl ?_
          refine ao_iload_n 1 dX12_mayEnd_143 rfl rfl ?_
          obtain ⟨p4, hp4, h⟩ := ao_bind h
          refine an_callVi r0 12 (q := (RX12, TX12, 83)) [.int x1] (aX12_hasWrites (d - 1) (by omega) _ r0 x1 M ρ hp4) dX12_mayEnd_144 lc_X12_422 li_X12_hasWrites ls_X12_hasWrites rfl hk1 rfl rfl (Nat.le_of_ble_eq_true rfl) (ao_hR (by omega) (by decide)) ?_
          refine ao_if_ne 152 dX12_mayEnd_147 (by decide) (fun c5 => ?_) (fun c5 => ?_)
          · replace h := ao_ifF h c5
            refine ao_aload_n 0 dX12_mayEnd_152 rfl rfl ?_
            refine an_getI r0 12 27 (q := (RX12, TX12, 83)) dX12_mayEnd_153 rfl hk1 (Nat.le_of_ble_eq_true rfl) rfl lf_X12_332 ?_
            refine ao_iconst (v := 1) dX12_mayEnd_156 (by decide) ?_
            refine ao_icmp_ne 175 dX12_mayEnd_157 (by decide) (fun c6 => ?_) (fun c6 => ?_)
            · replace h := ao_ifF h c6
              exact ih.2.2.2.2.2.2.2.2.1 r0 x1 p4.2 ρ _ h
            · replace h := ao_ifT h c6
              refine ao_aload_n 0 dX12_mayEnd_160 rfl rfl ?_
              refine an_getI r0 12 26 (q := (RX12, TX12, 83)) dX12_mayEnd_161 rfl hk1 (Nat.le_of_ble_eq_true rfl) rfl lf_X12_148 ?_
              refine ao_aload_n 0 dX12_mayEnd_164 rfl rfl ?_
              obtain ⟨j7, hj7, h⟩ := ao_bind h
              refine an_getR r0 12 38 (q := (RX12, TX12, 83)) dX12_mayEnd_165 rfl hk1 (Nat.le_of_ble_eq_true rfl) rfl lf_X12_214 hj7 ?_
              refine ao_iload_n 1 dX12_mayEnd_168 rfl rfl ?_
              obtain ⟨hk8, h⟩ := ao_some h
              obtain ⟨hb9, h⟩ := ao_some h
              refine an_iaload j7 dX12_mayEnd_169 hk8 hb9 ?_
              refine ao_icmp_ne 175 dX12_mayEnd_170 (by decide) (fun c10 => ?_) (fun c10 => ?_)
              · replace h := ao_ifF h c10
                exact ih.2.2.2.2.2.2.2.2.1 r0 x1 p4.2 ρ _ h
              · replace h := ao_ifT h c10
                refine ao_iconst (v := 1) dX12_mayEnd_173 (by decide) ?_
                cases h
                exact ao_ireturn dX12_mayEnd_174 rfl rfl ⟨rfl, rfl⟩
          · replace h := ao_ifT h c5
            refine ao_iconst (v := 1) dX12_mayEnd_150 (by decide) ?_
            cases h
            exact ao_ireturn dX12_mayEnd_151 rfl rfl ⟨rfl, rfl⟩
        · replace h := ao_ifT h c3
          refine ao_iconst (v := (-1)) dX12_mayEnd_18 (by decide) ?_
          refine ao_istore_n 2 (lo' := [some (.ref (Γ.2.2.2 + r0)), some (.int x1), some (.int (-1 : Int32)), none, none, none]) dX12_mayEnd_19 rfl (Nat.le_of_ble_eq_true rfl) rfl ?_
          exact ih.2.1 r0 x1 (-1 : Int32) M ρ _ h
      · replace h := ao_ifT h c2
        refine ao_iconst (v := 1) dX12_mayEnd_8 (by decide) ?_
        cases h
        exact ao_ireturn dX12_mayEnd_9 rfl rfl ⟨rfl, rfl⟩
    · intro r0 x1 x2 M ρ y h
      replace h := ao_ifF h (by decide)
      replace h := ao_ifT h rfl
      refine ao_iconst (v := (-1)) dX12_mayEnd_20 (by decide) ?_
      refine ao_istore_n 3 (lo' := [some (.ref (Γ.2.2.2 + r0)), some (.int x1), some (.int x2), some (.int (-1 : Int32)), none, none]) dX12_mayEnd_21 rfl (Nat.le_of_ble_eq_true rfl) rfl ?_
      refine ao_iconst (v := 0) dX12_mayEnd_22 (by decide) ?_
      refine ao_istore 4 (lo' := [some (.ref (Γ.2.2.2 + r0)), some (.int x1), some (.int x2), some (.int (-1 : Int32)), some (.int (0 : Int32)), none]) dX12_mayEnd_23 (Nat.le_of_ble_eq_true rfl) rfl ?_
      exact ih.2.2.1 r0 x1 x2 (-1 : Int32) (0 : Int32) M ρ _ h
    · intro r0 x1 x2 x3 x4 M ρ y h
      replace h := ao_ifF h (by decide)
      replace h := ao_ifF h (by decide)
      replace h := ao_ifT h rfl
      refine ao_iload 4 dX12_mayEnd_25 rfl ?_
      refine ao_bipush (v := 26) dX12_mayEnd_27 (by decide) ?_
      refine ao_icmp_ge 102 dX12_mayEnd_29 (by decide) (fun c11 => ?_) (fun c11 => ?_)
      · replace h := ao_ifT h c11
        refine ao_iload_n 3 dX12_mayEnd_102 rfl rfl ?_
        refine ao_if_ge 109 dX12_mayEnd_103 (by decide) (fun c12 => ?_) (fun c12 => ?_)
        · replace h := ao_ifT h c12
          refine ao_aload_n 0 dX12_mayEnd_109 rfl rfl ?_
          obtain ⟨hk13, h⟩ := ao_some h
          obtain ⟨j14, hj14, h⟩ := ao_bind h
          refine an_getR r0 12 59 (q := (RX12, TX12, 83)) dX12_mayEnd_110 rfl hk13 (Nat.le_of_ble_eq_true rfl) rfl lf_X12_278 hj14 ?_
          refine ao_aload_n 0 dX12_mayEnd_113 rfl rfl ?_
          refine ao_iload_n 1 dX12_mayEnd_114 rfl rfl ?_
          refine ao_iconst (v := 0) dX12_mayEnd_115 (by decide) ?_
          refine ao_iload_n 3 dX12_mayEnd_116 rfl rfl ?_
          obtain ⟨p15, hp15, h⟩ := ao_bind h
          refine an_callVi r0 12 (q := (RX12, TX12, 83)) [.int x1, .int (0 : Int32), .int x3] (aX12_cell (d - 1) (by omega) r0 x1 (0 : Int32) x3 M ρ hp15) dX12_mayEnd_117 lc_X12_357 li_X12_cell ls_X12_cell rfl hk13 rfl rfl (Nat.le_of_ble_eq_true rfl) (ao_hR (by omega) (by decide)) ?_
          obtain ⟨hk16, h⟩ := ao_some h
          obtain ⟨hb17, h⟩ := ao_some h
          refine an_iaload j14 dX12_mayEnd_120 hk16 hb17 ?_
          refine an_topi (fun v18 hv18 => ?_)
          replace h := ao_letD h hv18
          refine ao_istore_n 2 (lo' := [some (.ref (Γ.2.2.2 + r0)), some (.int x1), some (.int v18), some (.int x3), some (.int x4), none]) dX12_mayEnd_121 rfl (Nat.le_of_ble_eq_true rfl) rfl ?_
          refine ao_aload_n 0 dX12_mayEnd_122 rfl rfl ?_
          refine ao_iload_n 1 dX12_mayEnd_123 rfl rfl ?_
          refine ao_iload_n 3 dX12_mayEnd_124 rfl rfl ?_
          obtain ⟨p19, hp19, h⟩ := ao_bind h
          refine ba_callVi r0 12 (q := (RX12, TX12, 83)) [.int x1, .int x3] (aX12_wins (d - 1) (by omega) n r0 x1 x3 p15.2 ρ hp19) dX12_mayEnd_125 lc_X12_411 li_X12_wins ls_X12_wins rfl hk13 rfl rfl (Nat.le_of_ble_eq_true rfl) (ao_hR (by omega) (by decide)) (ao_leC (me_X12_wins n r0 x1 x3 p15.2 ρ hp19) ((mX12_mayEnd n).2.2.2.2.2.2.1 r0 x1 v18 x3 x4 p19.1 p19.2.1 p19.2.2 _ h)) (ao_leS (me_X12_wins n r0 x1 x3 p15.2 ρ hp19) ((mX12_mayEnd n).2.2.2.2.2.2.1 r0 x1 v18 x3 x4 p19.1 p19.2.1 p19.2.2 _ h)) ?_
          exact ih.2.2.2.2.2.2.1 r0 x1 v18 x3 x4 p19.1 p19.2.1 p19.2.2 _ h
        · replace h := ao_ifF h c12
          refine ao_goto 136 dX12_mayEnd_106 (by decide) ?_
          refine ao_aload_n 0 dX12_mayEnd_136 rfl rfl ?_
          refine ao_iload_n 1 dX12_mayEnd_137 rfl rfl ?_
          obtain ⟨hk20, h⟩ := ao_some h
          obtain ⟨p21, hp21, h⟩ := ao_bind h
          refine ba_callVi r0 12 (q := (RX12, TX12, 83)) [.int x1] (aX12_goesOn (d - 1) (by omega) n r0 x1 M ρ hp21) dX12_mayEnd_138 lc_X12_408 li_X12_goesOn ls_X12_goesOn rfl hk20 rfl rfl (Nat.le_of_ble_eq_true rfl) (ao_hR (by omega) (by decide)) (ao_leC (me_X12_goesOn n r0 x1 M ρ hp21) ((mX12_mayEnd n).2.2.2.2.2.2.2.1 r0 x1 x2 x3 x4 p21.1 p21.2.1 p21.2.2 _ h)) (ao_leS (me_X12_goesOn n r0 x1 M ρ hp21) ((mX12_mayEnd n).2.2.2.2.2.2.2.1 r0 x1 x2 x3 x4 p21.1 p21.2.1 p21.2.2 _ h)) ?_
          exact ih.2.2.2.2.2.2.2.1 r0 x1 x2 x3 x4 p21.1 p21.2.1 p21.2.2 _ h
      · replace h := ao_ifF h c11
        refine ao_aload_n 0 dX12_mayEnd_32 rfl rfl ?_
        refine ao_iload_n 1 dX12_mayEnd_33 rfl rfl ?_
        refine ao_iconst (v := 0) dX12_mayEnd_34 (by decide) ?_
        refine ao_iload 4 dX12_mayEnd_35 rfl ?_
        obtain ⟨hk22, h⟩ := ao_some h
        obtain ⟨p23, hp23, h⟩ := ao_bind h
        refine an_callVi r0 12 (q := (RX12, TX12, 83)) [.int x1, .int (0 : Int32), .int x4] (aX12_cell (d - 1) (by omega) r0 x1 (0 : Int32) x4 M ρ hp23) dX12_mayEnd_37 lc_X12_357 li_X12_cell ls_X12_cell rfl hk22 rfl rfl (Nat.le_of_ble_eq_true rfl) (ao_hR (by omega) (by decide)) ?_
        refine an_topi (fun v24 hv24 => ?_)
        replace h := ao_letD h hv24
        refine ao_istore 5 (lo' := [some (.ref (Γ.2.2.2 + r0)), some (.int x1), some (.int x2), some (.int x3), some (.int x4), some (.int v24)]) dX12_mayEnd_40 (Nat.le_of_ble_eq_true rfl) rfl ?_
        refine ao_aload_n 0 dX12_mayEnd_42 rfl rfl ?_
        obtain ⟨j25, hj25, h⟩ := ao_bind h
        refine an_getR r0 12 55 (q := (RX12, TX12, 83)) dX12_mayEnd_43 rfl hk22 (Nat.le_of_ble_eq_true rfl) rfl lf_X12_266 hj25 ?_
        refine ao_iload 5 dX12_mayEnd_46 rfl ?_
        obtain ⟨hk26, h⟩ := ao_some h
        obtain ⟨hb27, h⟩ := ao_some h
        refine an_zaload j25 dX12_mayEnd_48 hk26 hb27 ?_
        refine ao_if_eq 96 dX12_mayEnd_49 (by decide) (fun c28 => ?_) (fun c28 => ?_)
        · replace h := ao_ifT h c28
          exact ih.2.2.2.2.2.1 r0 x1 x2 x3 x4 v24 p23.2 ρ _ h
        · replace h := ao_ifF h c28
          refine ao_iload_n 2 dX12_mayEnd_52 rfl rfl ?_
          refine ao_if_lt 67 dX12_mayEnd_53 (by decide) (fun c29 => ?_) (fun c29 => ?_)
          · replace h := ao_ifT h c29
            exact ih.2.2.2.1 r0 x1 x2 x3 x4 v24 p23.2 ρ _ h
          · replace h := ao_ifF h c29
            refine ao_aload_n 0 dX12_mayEnd_56 rfl rfl ?_
            obtain ⟨j30, hj30, h⟩ := ao_bind h
            refine an_getR r0 12 59 (q := (RX12, TX12, 83)) dX12_mayEnd_57 rfl hk22 (Nat.le_of_ble_eq_true rfl) rfl lf_X12_278 hj30 ?_
            refine ao_iload 5 dX12_mayEnd_60 rfl ?_
            obtain ⟨hk31, h⟩ := ao_some h
            obtain ⟨hb32, h⟩ := ao_some h
            refine an_iaload j30 dX12_mayEnd_62 hk31 hb32 ?_
            refine ao_iload_n 2 dX12_mayEnd_63 rfl rfl ?_
            refine ao_icmp_le 96 dX12_mayEnd_64 (by decide) (fun c33 => ?_) (fun c33 => ?_)
            · replace h := ao_ifT h c33
              exact ih.2.2.2.2.2.1 r0 x1 x2 x3 x4 v24 p23.2 ρ _ h
            · replace h := ao_ifF h c33
              exact ih.2.2.2.1 r0 x1 x2 x3 x4 v24 p23.2 ρ _ h
    · intro r0 x1 x2 x3 x4 x5 M ρ y h
      replace h := ao_ifF h (by decide)
      replace h := ao_ifF h (by decide)
      replace h := ao_ifF h (by decide)
      replace h := ao_ifT h rfl
      refine ao_iload_n 3 dX12_mayEnd_67 rfl rfl ?_
      refine ao_if_lt 93 dX12_mayEnd_68 (by decide) (fun c34 => ?_) (fun c34 => ?_)
      · replace h := ao_ifT h c34
        exact ih.2.2.2.2.1 r0 x1 x2 x3 x4 x5 M ρ _ h
      · replace h := ao_ifF h c34
        refine ao_aload_n 0 dX12_mayEnd_71 rfl rfl ?_
        obtain ⟨hk35, h⟩ := ao_some h
        obtain ⟨j36, hj36, h⟩ := ao_bind h
        refine an_getR r0 12 59 (q := (RX12, TX12, 83)) dX12_mayEnd_72 rfl hk35 (Nat.le_of_ble_eq_true rfl) rfl lf_X12_278 hj36 ?_
        refine ao_iload 5 dX12_mayEnd_75 rfl ?_
        obtain ⟨hk37, h⟩ := ao_some h
        obtain ⟨hb38, h⟩ := ao_some h
        refine an_iaload j36 dX12_mayEnd_77 hk37 hb38 ?_
        refine ao_aload_n 0 dX12_mayEnd_78 rfl rfl ?_
        refine an_getR r0 12 59 (q := (RX12, TX12, 83)) dX12_mayEnd_79 rfl hk35 (Nat.le_of_ble_eq_true rfl) rfl lf_X12_278 hj36 ?_
        refine ao_aload_n 0 dX12_mayEnd_82 rfl rfl ?_
        refine ao_iload_n 1 dX12_mayEnd_83 rfl rfl ?_
        refine ao_iconst (v := 0) dX12_mayEnd_84 (by decide) ?_
        refine ao_iload_n 3 dX12_mayEnd_85 rfl rfl ?_
        obtain ⟨p39, hp39, h⟩ := ao_bind h
        refine an_callVi r0 12 (q := (RX12, TX12, 83)) [.int x1, .int (0 : Int32), .int x3] (aX12_cell (d - 1) (by omega) r0 x1 (0 : Int32) x3 M ρ hp39) dX12_mayEnd_86 lc_X12_357 li_X12_cell ls_X12_cell rfl hk35 rfl rfl (Nat.le_of_ble_eq_true rfl) (ao_hR (by omega) (by decide)) ?_
        obtain ⟨hb40, h⟩ := ao_some h
        refine an_iaload j36 dX12_mayEnd_89 hk37 hb40 ?_
        refine ao_icmp_ge 96 dX12_mayEnd_90 (by decide) (fun c41 => ?_) (fun c41 => ?_)
        · replace h := ao_ifT h c41
          exact ih.2.2.2.2.2.1 r0 x1 x2 x3 x4 x5 p39.2 ρ _ h
        · replace h := ao_ifF h c41
          exact ih.2.2.2.2.1 r0 x1 x2 x3 x4 x5 p39.2 ρ _ h
    · intro r0 x1 x2 x3 x4 x5 M ρ y h
      replace h := ao_ifF h (by decide)
      replace h := ao_ifF h (by decide)
      replace h := ao_ifF h (by decide)
      replace h := ao_ifF h (by decide)
      replace h := ao_ifT h rfl
      refine ao_iload 4 dX12_mayEnd_93 rfl ?_
      refine ao_istore_n 3 (lo' := [some (.ref (Γ.2.2.2 + r0)), some (.int x1), some (.int x2), some (.int x4), some (.int x4), some (.int x5)]) dX12_mayEnd_95 rfl (Nat.le_of_ble_eq_true rfl) rfl ?_
      exact ih.2.2.2.2.2.1 r0 x1 x2 x4 x4 x5 M ρ _ h
    · intro r0 x1 x2 x3 x4 x5 M ρ y h
      replace h := ao_ifF h (by decide)
      replace h := ao_ifF h (by decide)
      replace h := ao_ifF h (by decide)
      replace h := ao_ifF h (by decide)
      replace h := ao_ifF h (by decide)
      replace h := ao_ifT h rfl
      obtain ⟨v42, hv42⟩ : ∃ z : Int32, z = x4 + (1 : Int32) := ⟨_, rfl⟩
      replace h := ao_letD h hv42
      refine ao_iinc 4 (v := v42) (lo' := [some (.ref (Γ.2.2.2 + r0)), some (.int x1), some (.int x2), some (.int x3), some (.int v42), some (.int x5)]) dX12_mayEnd_96 rfl (by rw [hv42]; rfl) (Nat.le_of_ble_eq_true rfl) rfl ?_
      refine ao_goto 25 dX12_mayEnd_99 (by decide) ?_
      refine ao_loForget (lo' := [some (.ref (Γ.2.2.2 + r0)), some (.int x1), some (.int x2), some (.int x3), some (.int v42), none]) (ao_fgS (ao_fgS (ao_fgS (ao_fgS (ao_fgS (ao_fgN ao_fgZ)))))) ?_
      exact ih.2.2.1 r0 x1 x2 x3 v42 M ρ _ h
    · intro r0 x1 x2 x3 x4 s0 M ρ y h
      replace h := ao_ifF h (by decide)
      replace h := ao_ifF h (by decide)
      replace h := ao_ifF h (by decide)
      replace h := ao_ifF h (by decide)
      replace h := ao_ifF h (by decide)
      replace h := ao_ifF h (by decide)
      replace h := ao_ifT h rfl
      refine ao_if_ne 133 dX12_mayEnd_128 (by decide) (fun c43 => ?_) (fun c43 => ?_)
      · replace h := ao_ifF h c43
        refine ao_goto 20 dX12_mayEnd_133 (by decide) ?_
        refine ao_loForget (lo' := [some (.ref (Γ.2.2.2 + r0)), some (.int x1), some (.int x2), none, none, none]) (ao_fgS (ao_fgS (ao_fgS (ao_fgN (ao_fgN (ao_fgN ao_fgZ)))))) ?_
        exact ih.2.1 r0 x1 x2 M ρ _ h
      · replace h := ao_ifT h c43
        refine ao_iconst (v := 0) dX12_mayEnd_131 (by decide) ?_
        cases h
        exact ao_ireturn dX12_mayEnd_132 rfl rfl ⟨rfl, rfl⟩
    · intro r0 x1 x2 x3 x4 s0 M ρ y h
      replace h := ao_ifF h (by decide)
      replace h := ao_ifF h (by decide)
      replace h := ao_ifF h (by decide)
      replace h := ao_ifF h (by decide)
      replace h := ao_ifF h (by decide)
      replace h := ao_ifF h (by decide)
      replace h := ao_ifF h (by decide)
      replace h := ao_ifT h rfl
      obtain ⟨hz44, h⟩ := ao_some h
      cases h
      exact ao_ireturn dX12_mayEnd_141 rfl (ao_nb hz44) ⟨rfl, rfl⟩
    · intro r0 x1 M ρ y h
      replace h := ao_ifF h (by decide)
      replace h := ao_ifF h (by decide)
      replace h := ao_ifF h (by decide)
      replace h := ao_ifF h (by decide)
      replace h := ao_ifF h (by decide)
      replace h := ao_ifF h (by decide)
      replace h := ao_ifF h (by decide)
      replace h := ao_ifF h (by decide)
      replace h := ao_ifT h rfl
      refine ao_aload_n 0 dX12_mayEnd_175 rfl rfl ?_
      refine ao_iload_n 1 dX12_mayEnd_176 rfl rfl ?_
      obtain ⟨hk45, h⟩ := ao_some h
      obtain ⟨p46, hp46, h⟩ := ao_bind h
      refine ba_callVi r0 12 (q := (RX12, TX12, 83)) [.int x1] (aX12_goesOn (d - 1) (by omega) n r0 x1 M ρ hp46) dX12_mayEnd_177 lc_X12_408 li_X12_goesOn ls_X12_goesOn rfl hk45 rfl rfl (Nat.le_of_ble_eq_true rfl) (ao_hR (by omega) (by decide)) (ao_leC (me_X12_goesOn n r0 x1 M ρ hp46) ((mX12_mayEnd n).2.2.2.2.2.2.2.2.2 r0 x1 p46.1 p46.2.1 p46.2.2 _ h)) (ao_leS (me_X12_goesOn n r0 x1 M ρ hp46) ((mX12_mayEnd n).2.2.2.2.2.2.2.2.2 r0 x1 p46.1 p46.2.1 p46.2.2 _ h)) ?_
      exact ih.2.2.2.2.2.2.2.2.2 r0 x1 p46.1 p46.2.1 p46.2.2 _ h
    · intro r0 x1 s0 M ρ y h
      replace h := ao_ifF h (by decide)
      replace h := ao_ifF h (by decide)
      replace h := ao_ifF h (by decide)
      replace h := ao_ifF h (by decide)
      replace h := ao_ifF h (by decide)
      replace h := ao_ifF h (by decide)
      replace h := ao_ifF h (by decide)
      replace h := ao_ifF h (by decide)
      replace h := ao_ifF h (by decide)
      replace h := ao_ifT h rfl
      obtain ⟨hz47, h⟩ := ao_some h
      cases h
      exact ao_ireturn dX12_mayEnd_180 rfl (ao_nb hz47) ⟨rfl, rfl⟩
theorem me_X12_mayEnd (n : Nat) (r0 : Nat) (x1 : Int32) (M : ao_M) (ρ : ao_H) {y : Int32 × ao_S} (h : gX12_mayEnd n r0 x1 M ρ = some y) : ao_le ρ y.2.2 := (mX12_mayEnd n).1 r0 x1 M ρ y h
set_option maxRecDepth 100000 in
set_option maxHeartbeats 4000000 in
theorem aX12_mayEnd {Γ : ao_C} (d : Nat) (hd : 6 ≤ d) (n : Nat) (r0 : Nat) (x1 : Int32) (M : ao_M) (ρ : ao_H) {y : Int32 × ao_S} (h : gX12_mayEnd n r0 x1 M ρ = some y) : ao_A Γ uX12_mayEnd d (ao_dc ρ y.2.2) (ao_ds ρ y.2.2) [.ref (Γ.2.2.2 + r0), .int x1] (M, ρ) (ao_QI y) := by
  refine ao_of (by decide) (ao_cat1 (Nat.le_of_ble_eq_true rfl)) (Nat.le_of_ble_eq_true rfl) ?_
  show ao_W Γ uX12_mayEnd (ao_rm d (ao_dc ρ y.2.2) (ao_ds ρ y.2.2)) (ao_Q Γ (ao_QI y) (ao_dc ρ y.2.2) (ao_ds ρ y.2.2)) (ao_dc ρ y.2.2) (ao_ds ρ y.2.2) 0 [some (.ref (Γ.2.2.2 + r0)), some (.int x1), none, none, none, none] [] (M, ρ)
  exact (wX12_mayEnd d hd _ _ n).1 r0 x1 M ρ y h

abbrev uX12_say : ao_Mi := (yX12_say, cX12_say, 3, none, [])
def gX12_say (r0 : Nat) (x1 : Int32) (x2 : Int32) (M : ao_M) (ρ : ao_H) : Option (ao_M) :=
  if ρ.2.1 r0 = 22 then
  if (M r0 68) = (200 : Int32) then
    some M
  else
    (ρ.1 r0 66).bind fun j3 =>
    if ρ.2.1 j3 = 0 then
    if ¬ ((M r0 68) < 0 ∨ ρ.2.2.1 j3 ≤ (M r0 68).toNatClampNeg) then
    ao_let (ao_u M j3 (M r0 68).toNatClampNeg x2) fun M6 =>
    (ρ.1 r0 67).bind fun j7 =>
    if ρ.2.1 j7 = 0 then
    if ¬ ((M6 r0 68) < 0 ∨ ρ.2.2.1 j7 ≤ (M6 r0 68).toNatClampNeg) then
    ao_let (ao_u M6 j7 (M6 r0 68).toNatClampNeg x1) fun M10 =>
    ao_let (ao_u M10 r0 68 ((M10 r0 68) + (1 : Int32))) fun M11 =>
    some M11
    else none
    else none
    else none
    else none
  else none
set_option maxRecDepth 100000 in
set_option maxHeartbeats 4000000 in
theorem aX12_say {Γ : ao_C} (d : Nat) (hd : 0 ≤ d) (r0 : Nat) (x1 : Int32) (x2 : Int32) (M : ao_M) (ρ : ao_H) {y : ao_M} (h : gX12_say r0 x1 x2 M ρ = some y) : ao_A Γ uX12_say d 0 0 [.ref (Γ.2.2.2 + r0), .int x1, .int x2] (M, ρ) (ao_PV ρ y) := by
  refine ao_of (by decide) (ao_cat1 (Nat.le_of_ble_eq_true rfl)) (Nat.le_of_ble_eq_true rfl) ?_
  show ao_W Γ uX12_say (ao_rm d 0 0) (ao_Q Γ (ao_PV ρ y) 0 0) 0 0 0 [some (.ref (Γ.2.2.2 + r0)), some (.int x1), some (.int x2)] [] (M, ρ)
  unfold gX12_say at h
  refine ao_aload_n 0 dX12_say_0 rfl rfl ?_
  obtain ⟨hk1, h⟩ := ao_some h
  refine an_getI r0 12 68 (q := (RX12, TX12, 83)) dX12_say_1 rfl hk1 (Nat.le_of_ble_eq_true rfl) rfl lf_X12_335 ?_
  refine ao_sipush (v := 200) dX12_say_4 (by decide) ?_
  refine ao_icmp_ne 11 dX12_say_7 (by decide) (fun c2 => ?_) (fun c2 => ?_)
  · replace h := ao_ifF h c2
    refine ao_aload_n 0 dX12_say_11 rfl rfl ?_
    obtain ⟨j3, hj3, h⟩ := ao_bind h
    refine an_getR r0 12 66 (q := (RX12, TX12, 83)) dX12_say_12 rfl hk1 (Nat.le_of_ble_eq_true rfl) rfl lf_X12_290 hj3 ?_
    refine ao_aload_n 0 dX12_say_15 rfl rfl ?_
    refine an_getI r0 12 68 (q := (RX12, TX12, 83)) dX12_say_16 rfl hk1 (Nat.le_of_ble_eq_true rfl) rfl lf_X12_335 ?_
    refine ao_iload_n 2 dX12_say_19 rfl rfl ?_
    obtain ⟨hk4, h⟩ := ao_some h
    obtain ⟨hb5, h⟩ := ao_some h
    refine an_iastore j3 dX12_say_20 hk4 hb5 (fun M6 hM6 => ?_)
    replace h := ao_letD h hM6
    refine ao_aload_n 0 dX12_say_21 rfl rfl ?_
    obtain ⟨j7, hj7, h⟩ := ao_bind h
    refine an_getR r0 12 67 (q := (RX12, TX12, 83)) dX12_say_22 rfl hk1 (Nat.le_of_ble_eq_true rfl) rfl lf_X12_293 hj7 ?_
    refine ao_aload_n 0 dX12_say_25 rfl rfl ?_
    refine an_getI r0 12 68 (q := (RX12, TX12, 83)) dX12_say_26 rfl hk1 (Nat.le_of_ble_eq_true rfl) rfl lf_X12_335 ?_
    refine ao_iload_n 1 dX12_say_29 rfl rfl ?_
    obtain ⟨hk8, h⟩ := ao_some h
    obtain ⟨hb9, h⟩ := ao_some h
    refine an_iastore j7 dX12_say_30 hk8 hb9 (fun M10 hM10 => ?_)
    replace h := ao_letD h hM10
    refine ao_aload_n 0 dX12_say_31 rfl rfl ?_
    refine ao_dup dX12_say_32 rfl ?_
    refine an_getI r0 12 68 (q := (RX12, TX12, 83)) dX12_say_33 rfl hk1 (Nat.le_of_ble_eq_true rfl) rfl lf_X12_335 ?_
    refine ao_iconst (v := 1) dX12_say_36 (by decide) ?_
    refine ao_iadd dX12_say_37 ?_
    refine an_putI r0 12 68 (q := (RX12, TX12, 83)) dX12_say_38 rfl hk1 (Nat.le_of_ble_eq_true rfl) lf_X12_335 rfl rfl rfl rfl (fun M11 hM11 => ?_)
    replace h := ao_letD h hM11
    cases h
    exact ao_return dX12_say_41 rfl ⟨rfl, rfl⟩
  · replace h := ao_ifT h c2
    cases h
    exact ao_return dX12_say_10 rfl ⟨rfl, rfl⟩

abbrev uX12_endPart : ao_Mi := (yX12_endPart, cX12_endPart, 6, none, [])
def fX12_endPart : Nat → Nat → Nat → Int32 → Int32 → Int32 → Int32 → Int32 →  ao_M → ao_H → Option (ao_M)
  | 0, _, _, _, _, _, _, _, _, _ => none
  | n + 1, pc, r0, x1, x2, x3, x4, x5, M, ρ =>
    if pc = 0 then
      if ρ.2.1 r0 = 22 then
      (ρ.1 r0 34).bind fun j2 =>
      if ρ.2.1 j2 = 0 then
      if ¬ (x1 < 0 ∨ ρ.2.2.1 j2 ≤ x1.toNatClampNeg) then
      ao_let ((M j2 x1.toNatClampNeg) - (1 : Int32)) fun v5 =>
      (gX12_giveReads n r0 x1 v5 M ρ).bind fun p6 =>
      fX12_endPart n 17 r0 x1 v5 (0 : Int32) 0 0 p6 ρ
      else none
      else none
      else none
    else if pc = 17 then
      if (26 : Int32) ≤ x3 then
        if ρ.2.1 r0 = 22 then
        (gX12_level r0 x1 x2 M ρ).bind fun p9 =>
        ao_let p9.1 fun v10 =>
        (gX12_level r0 x1 (x2 - (1 : Int32)) p9.2 ρ).bind fun p11 =>
        ao_let p11.1 fun v12 =>
        fX12_endPart n 121 r0 x1 x2 v10 v12 (0 : Int32) p11.2 ρ
        else none
      else
        if ρ.2.1 r0 = 22 then
        (gX12_cell r0 x1 x2 x3 M ρ).bind fun p14 =>
        ao_let p14.1 fun v15 =>
        (gX12_cell r0 x1 (x2 - (1 : Int32)) x3 p14.2 ρ).bind fun p16 =>
        ao_let p16.1 fun v17 =>
        (ρ.1 r0 56).bind fun j18 =>
        if ρ.2.1 j18 = 2 then
        if ¬ (v15 < 0 ∨ ρ.2.2.1 j18 ≤ v15.toNatClampNeg) then
        if (p16.2 j18 v15.toNatClampNeg) = 0 then
          fX12_endPart n 95 r0 x1 x2 x3 v15 v17 p16.2 ρ
        else
          (gX12_isEager n r0 p16.2 ρ).bind fun p22 =>
          if p22.1 = 0 then
            fX12_endPart n 73 r0 x1 x2 x3 v15 v17 p22.2 ρ
          else
            if ¬ (v17 < 0 ∨ ρ.2.2.1 j18 ≤ v17.toNatClampNeg) then
            if (p22.2 j18 v17.toNatClampNeg) = 0 then
              fX12_endPart n 73 r0 x1 x2 x3 v15 v17 p22.2 ρ
            else
              fX12_endPart n 95 r0 x1 x2 x3 v15 v17 p22.2 ρ
            else none
        else none
        else none
        else none
    else if pc = 73 then
      if ρ.2.1 r0 = 22 then
      (ρ.1 r0 56).bind fun j27 =>
      if ρ.2.1 j27 = 2 then
      if ¬ (x5 < 0 ∨ ρ.2.2.1 j27 ≤ x5.toNatClampNeg) then
      ao_let (ao_u M j27 x5.toNatClampNeg (1 : Int32)) fun M30 =>
      (ρ.1 r0 60).bind fun j31 =>
      if ρ.2.1 j31 = 0 then
      if ¬ (x4 < 0 ∨ ρ.2.2.1 j31 ≤ x4.toNatClampNeg) then
      if ¬ (x5 < 0 ∨ ρ.2.2.1 j31 ≤ x5.toNatClampNeg) then
      ao_let (ao_u M30 j31 x5.toNatClampNeg (M30 j31 x4.toNatClampNeg)) fun M35 =>
      fX12_endPart n 95 r0 x1 x2 x3 x4 x5 M35 ρ
      else none
      else none
      else none
      else none
      else none
      else none
    else if pc = 95 then
      ao_let (x3 + (1 : Int32)) fun v36 =>
      fX12_endPart n 17 r0 x1 x2 v36 0 0 M ρ
    else if pc = 121 then
      if ρ.2.1 r0 = 22 then
      (ρ.1 r0 62).bind fun j38 =>
      if ρ.2.1 j38 = 0 then
      if ¬ (x3 < 0 ∨ ρ.2.2.1 j38 ≤ x3.toNatClampNeg) then
      if (M j38 x3.toNatClampNeg) ≤ x5 then
        fX12_endPart n 194 r0 x1 x2 x3 x4 x5 M ρ
      else
        if ¬ (x4 < 0 ∨ ρ.2.2.1 j38 ≤ x4.toNatClampNeg) then
        if (200 : Int32) ≤ (M j38 x4.toNatClampNeg) then
          fX12_endPart n 194 r0 x1 x2 x3 x4 x5 M ρ
        else
          (ρ.1 r0 61).bind fun j44 =>
          if ρ.2.1 j44 = 0 then
          if ¬ (((x3 * (200 : Int32)) + x5) < 0 ∨ ρ.2.2.1 j44 ≤ ((x3 * (200 : Int32)) + x5).toNatClampNeg) then
          if ¬ (((x4 * (200 : Int32)) + (M j38 x4.toNatClampNeg)) < 0 ∨ ρ.2.2.1 j44 ≤ ((x4 * (200 : Int32)) + (M j38 x4.toNatClampNeg)).toNatClampNeg) then
          ao_let (ao_u M j44 ((x4 * (200 : Int32)) + (M j38 x4.toNatClampNeg)).toNatClampNeg (M j44 ((x3 * (200 : Int32)) + x5).toNatClampNeg)) fun M48 =>
          ao_let (ao_u M48 j38 x4.toNatClampNeg ((M48 j38 x4.toNatClampNeg) + (1 : Int32))) fun M49 =>
          ao_let (x5 + (1 : Int32)) fun v50 =>
          fX12_endPart n 121 r0 x1 x2 x3 x4 v50 M49 ρ
          else none
          else none
          else none
        else none
      else none
      else none
      else none
    else if pc = 194 then
      if ρ.2.1 r0 = 22 then
      (ρ.1 r0 34).bind fun j52 =>
      if ρ.2.1 j52 = 0 then
      if ¬ (x1 < 0 ∨ ρ.2.2.1 j52 ≤ x1.toNatClampNeg) then
      ao_let (ao_u M j52 x1.toNatClampNeg ((M j52 x1.toNatClampNeg) - (1 : Int32))) fun M55 =>
      some M55
      else none
      else none
      else none
    else none
def gX12_endPart (n : Nat) (r0 : Nat) (x1 : Int32) (M : ao_M) (ρ : ao_H) : Option (ao_M) := fX12_endPart n 0 r0 x1 0 0 0 0 M ρ
set_option maxRecDepth 100000 in
set_option maxHeartbeats 4000000 in
theorem wX12_endPart {Γ : ao_C} {ρ : ao_H} (d : Nat) (hd : 2 ≤ d) : ∀ n : Nat, (∀ (r0 : Nat) (x1 : Int32) (M : ao_M) (y : ao_M), fX12_endPart n 0 r0 x1 0 0 0 0 M ρ = some y → ao_W Γ uX12_endPart (ao_rm d 0 0) (ao_Q Γ (ao_PV ρ y) 0 0) 0 0 0 [some (.ref (Γ.2.2.2 + r0)), some (.int x1), none, none, none, none] [] (M, ρ)) ∧ (∀ (r0 : Nat) (x1 : Int32) (x2 : Int32) (x3 : Int32) (M : ao_M) (y : ao_M), fX12_endPart n 17 r0 x1 x2 x3 0 0 M ρ = some y → ao_W Γ uX12_endPart (ao_rm d 0 0) (ao_Q Γ (ao_PV ρ y) 0 0) 0 0 17 [some (.ref (Γ.2.2.2 + r0)), some (.int x1), some (.int x2), some (.int x3), none, none] [] (M, ρ)) ∧ (∀ (r0 : Nat) (x1 : Int32) (x2 : Int32) (x3 : Int32) (x4 : Int32) (x5 : Int32) (M : ao_M) (y : ao_M), fX12_endPart n 73 r0 x1 x2 x3 x4 x5 M ρ = some y → ao_W Γ uX12_endPart (ao_rm d 0 0) (ao_Q Γ (ao_PV ρ y) 0 0) 0 0 73 [some (.ref (Γ.2.2.2 + r0)), some (.int x1), some (.int x2), some (.int x3), some (.int x4), some (.int x5)] [] (M, ρ)) ∧ (∀ (r0 : Nat) (x1 : Int32) (x2 : Int32) (x3 : Int32) (x4 : Int32) (x5 : Int32) (M : ao_M) (y : ao_M), fX12_endPart n 95 r0 x1 x2 x3 x4 x5 M ρ = some y → ao_W Γ uX12_endPart (ao_rm d 0 0) (ao_Q Γ (ao_PV ρ y) 0 0) 0 0 95 [some (.ref (Γ.2.2.2 + r0)), some (.int x1), some (.int x2), some (.int x3), some (.int x4), some (.int x5)] [] (M, ρ)) ∧ (∀ (r0 : Nat) (x1 : Int32) (x2 : Int32) (x3 : Int32) (x4 : Int32) (x5 : Int32) (M : ao_M) (y : ao_M), fX12_endPart n 121 r0 x1 x2 x3 x4 x5 M ρ = some y → ao_W Γ uX12_endPart (ao_rm d 0 0) (ao_Q Γ (ao_PV ρ y) 0 0) 0 0 121 [some (.ref (Γ.2.2.2 + r0)), some (.int x1), some (.int x2), some (.int x3), some (.int x4), some (.int x5)] [] (M, ρ)) ∧ (∀ (r0 : Nat) (x1 : Int32) (x2 : Int32) (x3 : Int32) (x4 : Int32) (x5 : Int32) (M : ao_M) (y : ao_M), fX12_endPart n 194 r0 x1 x2 x3 x4 x5 M ρ = some y → ao_W Γ uX12_endPart (ao_rm d 0 0) (ao_Q Γ (ao_PV ρ y) 0 0) 0 0 194 [some (.ref (Γ.2.2.2 + r0)), some (.int x1), some (.int x2), some (.int x3), some (.int x4), some (.int x5)] [] (M, ρ)) := by
  intro n
  induction n with
  | zero => exact ⟨fun _ _ _ _ h => ao_no h, fun _ _ _ _ _ _ h => ao_no h, fun _ _ _ _ _ _ _ _ h => ao_no h, fun _ _ _ _ _ _ _ _ h => ao_no h, fun _ _ _ _ _ _ _ _ h => ao_no h, fun _ _ _ _ _ _ _ _ h => ao_no h⟩
  | succ n ih =>
    refine ⟨?_, ?_, ?_, ?_, ?_, ?_⟩
    · intro r0 x1 M y h
      replace h := ao_ifT h rfl
      refine ao_aload_n 0 dX12_endPart_0 rfl rfl ?_
      obtain ⟨hk1, h⟩ := ao_some h
      obtain ⟨j2, hj2, h⟩ := ao_bind h
      refine an_getR r0 12 34 (q := (RX12, TX12, 83)) dX12_endPart_1 rfl hk1 (Nat.le_of_ble_eq_true rfl) rfl lf_X12_202 hj2 ?_
      refine ao_iload_n 1 dX12_endPart_4 rfl rfl ?_
      obtain ⟨hk3, h⟩ := ao_some h
      obtain ⟨hb4, h⟩ := ao_some h
      refine an_iaload j2 dX12_endPart_5 hk3 hb4 ?_
      refine ao_iconst (v := 1) dX12_endPart_6 (by decide) ?_
      refine ao_isub dX12_endPart_7 ?_
      refine an_topi (fun v5 hv5 => ?_)
      replace h := ao_letD h hv5
      refine ao_istore_n 2 (lo' := [some (.ref (Γ.2.2.2 + r0)), some (.int x1), some (.int v5), none, none, none]) dX12_endPart_8 rfl (Nat.le_of_ble_eq_true rfl) rfl ?_
      refine ao_aload_n 0 dX12_endPart_9 rfl rfl ?_
      refine ao_iload_n 1 dX12_endPart_10 rfl rfl ?_
      refine ao_iload_n 2 dX12_endPart_11 rfl rfl ?_
      obtain ⟨p6, hp6, h⟩ := ao_bind h
      refine an_callVv r0 12 (q := (RX12, TX12, 83)) [.int x1, .int v5] (aX12_giveReads (d - 1) (by omega) _ r0 x1 v5 M ρ hp6) dX12_endPart_12 lc_X12_376 li_X12_giveReads ls_X12_giveReads rfl hk1 rfl rfl (Nat.le_of_ble_eq_true rfl) (ao_hR (by omega) (by decide)) ?_
      refine ao_iconst (v := 0) dX12_endPart_15 (by decide) ?_
      refine ao_istore_n 3 (lo' := [some (.ref (Γ.2.2.2 + r0)), some (.int x1), some (.int v5), some (.int (0 : Int32)), none, none]) dX12_endPart_16 rfl (Nat.le_of_ble_eq_true rfl) rfl ?_
      exact ih.2.1 r0 x1 v5 (0 : Int32) p6 _ h
    · intro r0 x1 x2 x3 M y h
      replace h := ao_ifF h (by decide)
      replace h := ao_ifT h rfl
      refine ao_iload_n 3 dX12_endPart_17 rfl rfl ?_
      refine ao_bipush (v := 26) dX12_endPart_18 (by decide) ?_
      refine ao_icmp_ge 101 dX12_endPart_20 (by decide) (fun c7 => ?_) (fun c7 => ?_)
      · replace h := ao_ifT h c7
        refine ao_aload_n 0 dX12_endPart_101 rfl rfl ?_
        refine ao_iload_n 1 dX12_endPart_102 rfl rfl ?_
        refine ao_iload_n 2 dX12_endPart_103 rfl rfl ?_
        obtain ⟨hk8, h⟩ := ao_some h
        obtain ⟨p9, hp9, h⟩ := ao_bind h
        refine an_callVi r0 12 (q := (RX12, TX12, 83)) [.int x1, .int x2] (aX12_level (d - 1) (by omega) r0 x1 x2 M ρ hp9) dX12_endPart_104 lc_X12_360 li_X12_level ls_X12_level rfl hk8 rfl rfl (Nat.le_of_ble_eq_true rfl) (ao_hR (by omega) (by decide)) ?_
        refine an_topi (fun v10 hv10 => ?_)
        replace h := ao_letD h hv10
        refine ao_istore_n 3 (lo' := [some (.ref (Γ.2.2.2 + r0)), some (.int x1), some (.int x2), some (.int v10), none, none]) dX12_endPart_107 rfl (Nat.le_of_ble_eq_true rfl) rfl ?_
        refine ao_aload_n 0 dX12_endPart_108 rfl rfl ?_
        refine ao_iload_n 1 dX12_endPart_109 rfl rfl ?_
        refine ao_iload_n 2 dX12_endPart_110 rfl rfl ?_
        refine ao_iconst (v := 1) dX12_endPart_111 (by decide) ?_
        refine ao_isub dX12_endPart_112 ?_
        obtain ⟨p11, hp11, h⟩ := ao_bind h
        refine an_callVi r0 12 (q := (RX12, TX12, 83)) [.int x1, .int (x2 - (1 : Int32))] (aX12_level (d - 1) (by omega) r0 x1 (x2 - (1 : Int32)) p9.2 ρ hp11) dX12_endPart_113 lc_X12_360 li_X12_level ls_X12_level rfl hk8 rfl rfl (Nat.le_of_ble_eq_true rfl) (ao_hR (by omega) (by decide)) ?_
        refine an_topi (fun v12 hv12 => ?_)
        replace h := ao_letD h hv12
        refine ao_istore 4 (lo' := [some (.ref (Γ.2.2.2 + r0)), some (.int x1), some (.int x2), some (.int v10), some (.int v12), none]) dX12_endPart_116 (Nat.le_of_ble_eq_true rfl) rfl ?_
        refine ao_iconst (v := 0) dX12_endPart_118 (by decide) ?_
        refine ao_istore 5 (lo' := [some (.ref (Γ.2.2.2 + r0)), some (.int x1), some (.int x2), some (.int v10), some (.int v12), some (.int (0 : Int32))]) dX12_endPart_119 (Nat.le_of_ble_eq_true rfl) rfl ?_
        exact ih.2.2.2.2.1 r0 x1 x2 v10 v12 (0 : Int32) p11.2 _ h
      · replace h := ao_ifF h c7
        refine ao_aload_n 0 dX12_endPart_23 rfl rfl ?_
        refine ao_iload_n 1 dX12_endPart_24 rfl rfl ?_
        refine ao_iload_n 2 dX12_endPart_25 rfl rfl ?_
        refine ao_iload_n 3 dX12_endPart_26 rfl rfl ?_
        obtain ⟨hk13, h⟩ := ao_some h
        obtain ⟨p14, hp14, h⟩ := ao_bind h
        refine an_callVi r0 12 (q := (RX12, TX12, 83)) [.int x1, .int x2, .int x3] (aX12_cell (d - 1) (by omega) r0 x1 x2 x3 M ρ hp14) dX12_endPart_27 lc_X12_357 li_X12_cell ls_X12_cell rfl hk13 rfl rfl (Nat.le_of_ble_eq_true rfl) (ao_hR (by omega) (by decide)) ?_
        refine an_topi (fun v15 hv15 => ?_)
        replace h := ao_letD h hv15
        refine ao_istore 4 (lo' := [some (.ref (Γ.2.2.2 + r0)), some (.int x1), some (.int x2), some (.int x3), some (.int v15), none]) dX12_endPart_30 (Nat.le_of_ble_eq_true rfl) rfl ?_
        refine ao_aload_n 0 dX12_endPart_32 rfl rfl ?_
        refine ao_iload_n 1 dX12_endPart_33 rfl rfl ?_
        refine ao_iload_n 2 dX12_endPart_34 rfl rfl ?_
        refine ao_iconst (v := 1) dX12_endPart_35 (by decide) ?_
        refine ao_isub dX12_endPart_36 ?_
        refine ao_iload_n 3 dX12_endPart_37 rfl rfl ?_
        obtain ⟨p16, hp16, h⟩ := ao_bind h
        refine an_callVi r0 12 (q := (RX12, TX12, 83)) [.int x1, .int (x2 - (1 : Int32)), .int x3] (aX12_cell (d - 1) (by omega) r0 x1 (x2 - (1 : Int32)) x3 p14.2 ρ hp16) dX12_endPart_38 lc_X12_357 li_X12_cell ls_X12_cell rfl hk13 rfl rfl (Nat.le_of_ble_eq_true rfl) (ao_hR (by omega) (by decide)) ?_
        refine an_topi (fun v17 hv17 => ?_)
        replace h := ao_letD h hv17
        refine ao_istore 5 (lo' := [some (.ref (Γ.2.2.2 + r0)), some (.int x1), some (.int x2), some (.int x3), some (.int v15), some (.int v17)]) dX12_endPart_41 (Nat.le_of_ble_eq_true rfl) rfl ?_
        refine ao_aload_n 0 dX12_endPart_43 rfl rfl ?_
        obtain ⟨j18, hj18, h⟩ := ao_bind h
        refine an_getR r0 12 56 (q := (RX12, TX12, 83)) dX12_endPart_44 rfl hk13 (Nat.le_of_ble_eq_true rfl) rfl lf_X12_269 hj18 ?_
        refine ao_iload 4 dX12_endPart_47 rfl ?_
        obtain ⟨hk19, h⟩ := ao_some h
        obtain ⟨hb20, h⟩ := ao_some h
        refine an_zaload j18 dX12_endPart_49 hk19 hb20 ?_
        refine ao_if_eq 95 dX12_endPart_50 (by decide) (fun c21 => ?_) (fun c21 => ?_)
        · replace h := ao_ifT h c21
          exact ih.2.2.2.1 r0 x1 x2 x3 v15 v17 p16.2 _ h
        · replace h := ao_ifF h c21
          refine ao_aload_n 0 dX12_endPart_53 rfl rfl ?_
          obtain ⟨p22, hp22, h⟩ := ao_bind h
          refine an_callVi r0 12 (q := (RX12, TX12, 83)) [] (aX12_isEager (d - 1) (by omega) _ r0 p16.2 ρ hp22) dX12_endPart_54 lc_X12_369 li_X12_isEager ls_X12_isEager rfl hk13 rfl rfl (Nat.le_of_ble_eq_true rfl) (ao_hR (by omega) (by decide)) ?_
          refine ao_if_eq 73 dX12_endPart_57 (by decide) (fun c23 => ?_) (fun c23 => ?_)
          · replace h := ao_ifT h c23
            exact ih.2.2.1 r0 x1 x2 x3 v15 v17 p22.2 _ h
          · replace h := ao_ifF h c23
            refine ao_aload_n 0 dX12_endPart_60 rfl rfl ?_
            refine an_getR r0 12 56 (q := (RX12, TX12, 83)) dX12_endPart_61 rfl hk13 (Nat.le_of_ble_eq_true rfl) rfl lf_X12_269 hj18 ?_
            refine ao_iload 5 dX12_endPart_64 rfl ?_
            obtain ⟨hb24, h⟩ := ao_some h
            refine an_zaload j18 dX12_endPart_66 hk19 hb24 ?_
            refine ao_if_eq 73 dX12_endPart_67 (by decide) (fun c25 => ?_) (fun c25 => ?_)
            · replace h := ao_ifT h c25
              exact ih.2.2.1 r0 x1 x2 x3 v15 v17 p22.2 _ h
            · replace h := ao_ifF h c25
              refine ao_goto 95 dX12_endPart_70 (by decide) ?_
              exact ih.2.2.2.1 r0 x1 x2 x3 v15 v17 p22.2 _ h
    · intro r0 x1 x2 x3 x4 x5 M y h
      replace h := ao_ifF h (by decide)
      replace h := ao_ifF h (by decide)
      replace h := ao_ifT h rfl
      refine ao_aload_n 0 dX12_endPart_73 rfl rfl ?_
      obtain ⟨hk26, h⟩ := ao_some h
      obtain ⟨j27, hj27, h⟩ := ao_bind h
      refine an_getR r0 12 56 (q := (RX12, TX12, 83)) dX12_endPart_74 rfl hk26 (Nat.le_of_ble_eq_true rfl) rfl lf_X12_269 hj27 ?_
      refine ao_iload 5 dX12_endPart_77 rfl ?_
      refine ao_iconst (v := 1) dX12_endPart_79 (by decide) ?_
      obtain ⟨hk28, h⟩ := ao_some h
      obtain ⟨hb29, h⟩ := ao_some h
      refine an_zastore j27 dX12_endPart_80 hk28 hb29 rfl (fun M30 hM30 => ?_)
      replace h := ao_letD h hM30
      refine ao_aload_n 0 dX12_endPart_81 rfl rfl ?_
      obtain ⟨j31, hj31, h⟩ := ao_bind h
      refine an_getR r0 12 60 (q := (RX12, TX12, 83)) dX12_endPart_82 rfl hk26 (Nat.le_of_ble_eq_true rfl) rfl lf_X12_281 hj31 ?_
      refine ao_iload 5 dX12_endPart_85 rfl ?_
      refine ao_aload_n 0 dX12_endPart_87 rfl rfl ?_
      refine an_getR r0 12 60 (q := (RX12, TX12, 83)) dX12_endPart_88 rfl hk26 (Nat.le_of_ble_eq_true rfl) rfl lf_X12_281 hj31 ?_
      refine ao_iload 4 dX12_endPart_91 rfl ?_
      obtain ⟨hk32, h⟩ := ao_some h
      obtain ⟨hb33, h⟩ := ao_some h
      refine an_iaload j31 dX12_endPart_93 hk32 hb33 ?_
      obtain ⟨hb34, h⟩ := ao_some h
      refine an_iastore j31 dX12_endPart_94 hk32 hb34 (fun M35 hM35 => ?_)
      replace h := ao_letD h hM35
      exact ih.2.2.2.1 r0 x1 x2 x3 x4 x5 M35 _ h
    · intro r0 x1 x2 x3 x4 x5 M y h
      replace h := ao_ifF h (by decide)
      replace h := ao_ifF h (by decide)
      replace h := ao_ifF h (by decide)
      replace h := ao_ifT h rfl
      obtain ⟨v36, hv36⟩ : ∃ z : Int32, z = x3 + (1 : Int32) := ⟨_, rfl⟩
      replace h := ao_letD h hv36
      refine ao_iinc 3 (v := v36) (lo' := [some (.ref (Γ.2.2.2 + r0)), some (.int x1), some (.int x2), some (.int v36), some (.int x4), some (.int x5)]) dX12_endPart_95 rfl (by rw [hv36]; rfl) (Nat.le_of_ble_eq_true rfl) rfl ?_
      refine ao_goto 17 dX12_endPart_98 (by decide) ?_
      refine ao_loForget (lo' := [some (.ref (Γ.2.2.2 + r0)), some (.int x1), some (.int x2), some (.int v36), none, none]) (ao_fgS (ao_fgS (ao_fgS (ao_fgS (ao_fgN (ao_fgN ao_fgZ)))))) ?_
      exact ih.2.1 r0 x1 x2 v36 M _ h
    · intro r0 x1 x2 x3 x4 x5 M y h
      replace h := ao_ifF h (by decide)
      replace h := ao_ifF h (by decide)
      replace h := ao_ifF h (by decide)
      replace h := ao_ifF h (by decide)
      replace h := ao_ifT h rfl
      refine ao_iload 5 dX12_endPart_121 rfl ?_
      refine ao_aload_n 0 dX12_endPart_123 rfl rfl ?_
      obtain ⟨hk37, h⟩ := ao_some h
      obtain ⟨j38, hj38, h⟩ := ao_bind h
      refine an_getR r0 12 62 (q := (RX12, TX12, 83)) dX12_endPart_124 rfl hk37 (Nat.le_of_ble_eq_true rfl) rfl lf_X12_287 hj38 ?_
      refine ao_iload_n 3 dX12_endPart_127 rfl rfl ?_
      obtain ⟨hk39, h⟩ := ao_some h
      obtain ⟨hb40, h⟩ := ao_some h
      refine an_iaload j38 dX12_endPart_128 hk39 hb40 ?_
      refine ao_icmp_ge 194 dX12_endPart_129 (by decide) (fun c41 => ?_) (fun c41 => ?_)
      · replace h := ao_ifT h c41
        exact ih.2.2.2.2.2 r0 x1 x2 x3 x4 x5 M _ h
      · replace h := ao_ifF h c41
        refine ao_aload_n 0 dX12_endPart_132 rfl rfl ?_
        refine an_getR r0 12 62 (q := (RX12, TX12, 83)) dX12_endPart_133 rfl hk37 (Nat.le_of_ble_eq_true rfl) rfl lf_X12_287 hj38 ?_
        refine ao_iload 4 dX12_endPart_136 rfl ?_
        obtain ⟨hb42, h⟩ := ao_some h
        refine an_iaload j38 dX12_endPart_138 hk39 hb42 ?_
        refine ao_sipush (v := 200) dX12_endPart_139 (by decide) ?_
        refine ao_icmp_ge 194 dX12_endPart_142 (by decide) (fun c43 => ?_) (fun c43 => ?_)
        · replace h := ao_ifT h c43
          exact ih.2.2.2.2.2 r0 x1 x2 x3 x4 x5 M _ h
        · replace h := ao_ifF h c43
          refine ao_aload_n 0 dX12_endPart_145 rfl rfl ?_
          obtain ⟨j44, hj44, h⟩ := ao_bind h
          refine an_getR r0 12 61 (q := (RX12, TX12, 83)) dX12_endPart_146 rfl hk37 (Nat.le_of_ble_eq_true rfl) rfl lf_X12_284 hj44 ?_
          refine ao_iload 4 dX12_endPart_149 rfl ?_
          refine ao_sipush (v := 200) dX12_endPart_151 (by decide) ?_
          refine ao_imul dX12_endPart_154 ?_
          refine ao_aload_n 0 dX12_endPart_155 rfl rfl ?_
          refine an_getR r0 12 62 (q := (RX12, TX12, 83)) dX12_endPart_156 rfl hk37 (Nat.le_of_ble_eq_true rfl) rfl lf_X12_287 hj38 ?_
          refine ao_iload 4 dX12_endPart_159 rfl ?_
          refine an_iaload j38 dX12_endPart_161 hk39 hb42 ?_
          refine ao_iadd dX12_endPart_162 ?_
          refine ao_aload_n 0 dX12_endPart_163 rfl rfl ?_
          refine an_getR r0 12 61 (q := (RX12, TX12, 83)) dX12_endPart_164 rfl hk37 (Nat.le_of_ble_eq_true rfl) rfl lf_X12_284 hj44 ?_
          refine ao_iload_n 3 dX12_endPart_167 rfl rfl ?_
          refine ao_sipush (v := 200) dX12_endPart_168 (by decide) ?_
          refine ao_imul dX12_endPart_171 ?_
          refine ao_iload 5 dX12_endPart_172 rfl ?_
          refine ao_iadd dX12_endPart_174 ?_
          obtain ⟨hk45, h⟩ := ao_some h
          obtain ⟨hb46, h⟩ := ao_some h
          refine an_iaload j44 dX12_endPart_175 hk45 hb46 ?_
          obtain ⟨hb47, h⟩ := ao_some h
          refine an_iastore j44 dX12_endPart_176 hk45 hb47 (fun M48 hM48 => ?_)
          replace h := ao_letD h hM48
          refine ao_aload_n 0 dX12_endPart_177 rfl rfl ?_
          refine an_getR r0 12 62 (q := (RX12, TX12, 83)) dX12_endPart_178 rfl hk37 (Nat.le_of_ble_eq_true rfl) rfl lf_X12_287 hj38 ?_
          refine ao_iload 4 dX12_endPart_181 rfl ?_
          refine ao_dup2 dX12_endPart_183 rfl rfl ?_
          refine an_iaload j38 dX12_endPart_184 hk39 hb42 ?_
          refine ao_iconst (v := 1) dX12_endPart_185 (by decide) ?_
          refine ao_iadd dX12_endPart_186 ?_
          refine an_iastore j38 dX12_endPart_187 hk39 hb42 (fun M49 hM49 => ?_)
          replace h := ao_letD h hM49
          obtain ⟨v50, hv50⟩ : ∃ z : Int32, z = x5 + (1 : Int32) := ⟨_, rfl⟩
          replace h := ao_letD h hv50
          refine ao_iinc 5 (v := v50) (lo' := [some (.ref (Γ.2.2.2 + r0)), some (.int x1), some (.int x2), some (.int x3), some (.int x4), some (.int v50)]) dX12_endPart_188 rfl (by rw [hv50]; rfl) (Nat.le_of_ble_eq_true rfl) rfl ?_
          refine ao_goto 121 dX12_endPart_191 (by decide) ?_
          exact ih.2.2.2.2.1 r0 x1 x2 x3 x4 v50 M49 _ h
    · intro r0 x1 x2 x3 x4 x5 M y h
      replace h := ao_ifF h (by decide)
      replace h := ao_ifF h (by decide)
      replace h := ao_ifF h (by decide)
      replace h := ao_ifF h (by decide)
      replace h := ao_ifF h (by decide)
      replace h := ao_ifT h rfl
      refine ao_aload_n 0 dX12_endPart_194 rfl rfl ?_
      obtain ⟨hk51, h⟩ := ao_some h
      obtain ⟨j52, hj52, h⟩ := ao_bind h
      refine an_getR r0 12 34 (q := (RX12, TX12, 83)) dX12_endPart_195 rfl hk51 (Nat.le_of_ble_eq_true rfl) rfl lf_X12_202 hj52 ?_
      refine ao_iload_n 1 dX12_endPart_198 rfl rfl ?_
      refine ao_dup2 dX12_endPart_199 rfl rfl ?_
      obtain ⟨hk53, h⟩ := ao_some h
      obtain ⟨hb54, h⟩ := ao_some h
      refine an_iaload j52 dX12_endPart_200 hk53 hb54 ?_
      refine ao_iconst (v := 1) dX12_endPart_201 (by decide) ?_
      refine ao_isub dX12_endPart_202 ?_
      refine an_iastore j52 dX12_endPart_203 hk53 hb54 (fun M55 hM55 => ?_)
      replace h := ao_letD h hM55
      cases h
      exact ao_return dX12_endPart_204 rfl ⟨rfl, rfl⟩
set_option maxRecDepth 100000 in
set_option maxHeartbeats 4000000 in
theorem aX12_endPart {Γ : ao_C} (d : Nat) (hd : 2 ≤ d) (n : Nat) (r0 : Nat) (x1 : Int32) (M : ao_M) (ρ : ao_H) {y : ao_M} (h : gX12_endPart n r0 x1 M ρ = some y) : ao_A Γ uX12_endPart d 0 0 [.ref (Γ.2.2.2 + r0), .int x1] (M, ρ) (ao_PV ρ y) := by
  refine ao_of (by decide) (ao_cat1 (Nat.le_of_ble_eq_true rfl)) (Nat.le_of_ble_eq_true rfl) ?_
  show ao_W Γ uX12_endPart (ao_rm d 0 0) (ao_Q Γ (ao_PV ρ y) 0 0) 0 0 0 [some (.ref (Γ.2.2.2 + r0)), some (.int x1), none, none, none, none] [] (M, ρ)
  exact (wX12_endPart d hd n).1 r0 x1 M y h

abbrev uX12_newRecord : ao_Mi := (yX12_newRecord, cX12_newRecord, 4, (some .int), [])
def fX12_newRecord : Nat → Nat → Nat → Int32 → Int32 → Int32 →  ao_M → ao_H → Option (Int32 × ao_M)
  | 0, _, _, _, _, _, _, _ => none
  | n + 1, pc, r0, x1, x2, x3, M, ρ =>
    if pc = 0 then
      if ρ.2.1 r0 = 22 then
      if (M r0 76) = (300 : Int32) then
        some ((-1 : Int32), M)
      else
        (ρ.1 r0 69).bind fun j3 =>
        if ρ.2.1 j3 = 0 then
        if ¬ ((M r0 76) < 0 ∨ ρ.2.2.1 j3 ≤ (M r0 76).toNatClampNeg) then
        ao_let (ao_u M j3 (M r0 76).toNatClampNeg x1) fun M6 =>
        (ρ.1 r0 70).bind fun j7 =>
        if ρ.2.1 j7 = 0 then
        if ¬ ((M6 r0 76) < 0 ∨ ρ.2.2.1 j7 ≤ (M6 r0 76).toNatClampNeg) then
        ao_let (ao_u M6 j7 (M6 r0 76).toNatClampNeg x2) fun M10 =>
        (ρ.1 r0 71).bind fun j11 =>
        if ρ.2.1 j11 = 0 then
        if ¬ ((M10 r0 76) < 0 ∨ ρ.2.2.1 j11 ≤ (M10 r0 76).toNatClampNeg) then
        ao_let (ao_u M10 j11 (M10 r0 76).toNatClampNeg (M10 r0 65)) fun M14 =>
        ao_let ((M14 r0 76) * (26 : Int32)) fun v15 =>
        fX12_newRecord n 53 r0 x1 x2 v15 M14 ρ
        else none
        else none
        else none
        else none
        else none
        else none
      else none
    else if pc = 53 then
      if ρ.2.1 r0 = 22 then
      if (((M r0 76) * (26 : Int32)) + (26 : Int32)) ≤ x3 then
        ao_let (ao_u M r0 76 ((M r0 76) + (1 : Int32))) fun M18 =>
        some (((M18 r0 76) - (1 : Int32)), M18)
      else
        (ρ.1 r0 74).bind fun j19 =>
        if ρ.2.1 j19 = 2 then
        if ¬ (x3 < 0 ∨ ρ.2.2.1 j19 ≤ x3.toNatClampNeg) then
        ao_let (ao_u M j19 x3.toNatClampNeg (0 : Int32)) fun M22 =>
        (ρ.1 r0 75).bind fun j23 =>
        if ρ.2.1 j23 = 2 then
        if ¬ (x3 < 0 ∨ ρ.2.2.1 j23 ≤ x3.toNatClampNeg) then
        ao_let (ao_u M22 j23 x3.toNatClampNeg (0 : Int32)) fun M26 =>
        ao_let (x3 + (1 : Int32)) fun v27 =>
        fX12_newRecord n 53 r0 x1 x2 v27 M26 ρ
        else none
        else none
        else none
        else none
      else none
    else none
def gX12_newRecord (n : Nat) (r0 : Nat) (x1 : Int32) (x2 : Int32) (M : ao_M) (ρ : ao_H) : Option (Int32 × ao_M) := fX12_newRecord n 0 r0 x1 x2 0 M ρ
set_option maxRecDepth 100000 in
set_option maxHeartbeats 4000000 in
theorem wX12_newRecord {Γ : ao_C} {ρ : ao_H} (d : Nat) (hd : 0 ≤ d) : ∀ n : Nat, (∀ (r0 : Nat) (x1 : Int32) (x2 : Int32) (M : ao_M) (y : Int32 × ao_M), fX12_newRecord n 0 r0 x1 x2 0 M ρ = some y → ao_W Γ uX12_newRecord (ao_rm d 0 0) (ao_Q Γ (ao_PI ρ y) 0 0) 0 0 0 [some (.ref (Γ.2.2.2 + r0)), some (.int x1), some (.int x2), none] [] (M, ρ)) ∧ (∀ (r0 : Nat) (x1 : Int32) (x2 : Int32) (x3 : Int32) (M : ao_M) (y : Int32 × ao_M), fX12_newRecord n 53 r0 x1 x2 x3 M ρ = some y → ao_W Γ uX12_newRecord (ao_rm d 0 0) (ao_Q Γ (ao_PI ρ y) 0 0) 0 0 53 [some (.ref (Γ.2.2.2 + r0)), some (.int x1), some (.int x2), some (.int x3)] [] (M, ρ)) := by
  intro n
  induction n with
  | zero => exact ⟨fun _ _ _ _ _ h => ao_no h, fun _ _ _ _ _ _ h => ao_no h⟩
  | succ n ih =>
    refine ⟨?_, ?_⟩
    · intro r0 x1 x2 M y h
      replace h := ao_ifT h rfl
      refine ao_aload_n 0 dX12_newRecord_0 rfl rfl ?_
      obtain ⟨hk1, h⟩ := ao_some h
      refine an_getI r0 12 76 (q := (RX12, TX12, 83)) dX12_newRecord_1 rfl hk1 (Nat.le_of_ble_eq_true rfl) rfl lf_X12_338 ?_
      refine ao_sipush (v := 300) dX12_newRecord_4 (by decide) ?_
      refine ao_icmp_ne 12 dX12_newRecord_7 (by decide) (fun c2 => ?_) (fun c2 => ?_)
      · replace h := ao_ifF h c2
        refine ao_aload_n 0 dX12_newRecord_12 rfl rfl ?_
        obtain ⟨j3, hj3, h⟩ := ao_bind h
        refine an_getR r0 12 69 (q := (RX12, TX12, 83)) dX12_newRecord_13 rfl hk1 (Nat.le_of_ble_eq_true rfl) rfl lf_X12_296 hj3 ?_
        refine ao_aload_n 0 dX12_newRecord_16 rfl rfl ?_
        refine an_getI r0 12 76 (q := (RX12, TX12, 83)) dX12_newRecord_17 rfl hk1 (Nat.le_of_ble_eq_true rfl) rfl lf_X12_338 ?_
        refine ao_iload_n 1 dX12_newRecord_20 rfl rfl ?_
        obtain ⟨hk4, h⟩ := ao_some h
        obtain ⟨hb5, h⟩ := ao_some h
        refine an_iastore j3 dX12_newRecord_21 hk4 hb5 (fun M6 hM6 => ?_)
        replace h := ao_letD h hM6
        refine ao_aload_n 0 dX12_newRecord_22 rfl rfl ?_
        obtain ⟨j7, hj7, h⟩ := ao_bind h
        refine an_getR r0 12 70 (q := (RX12, TX12, 83)) dX12_newRecord_23 rfl hk1 (Nat.le_of_ble_eq_true rfl) rfl lf_X12_299 hj7 ?_
        refine ao_aload_n 0 dX12_newRecord_26 rfl rfl ?_
        refine an_getI r0 12 76 (q := (RX12, TX12, 83)) dX12_newRecord_27 rfl hk1 (Nat.le_of_ble_eq_true rfl) rfl lf_X12_338 ?_
        refine ao_iload_n 2 dX12_newRecord_30 rfl rfl ?_
        obtain ⟨hk8, h⟩ := ao_some h
        obtain ⟨hb9, h⟩ := ao_some h
        refine an_iastore j7 dX12_newRecord_31 hk8 hb9 (fun M10 hM10 => ?_)
        replace h := ao_letD h hM10
        refine ao_aload_n 0 dX12_newRecord_32 rfl rfl ?_
        obtain ⟨j11, hj11, h⟩ := ao_bind h
        refine an_getR r0 12 71 (q := (RX12, TX12, 83)) dX12_newRecord_33 rfl hk1 (Nat.le_of_ble_eq_true rfl) rfl lf_X12_302 hj11 ?_
        refine ao_aload_n 0 dX12_newRecord_36 rfl rfl ?_
        refine an_getI r0 12 76 (q := (RX12, TX12, 83)) dX12_newRecord_37 rfl hk1 (Nat.le_of_ble_eq_true rfl) rfl lf_X12_338 ?_
        refine ao_aload_n 0 dX12_newRecord_40 rfl rfl ?_
        refine an_getI r0 12 65 (q := (RX12, TX12, 83)) dX12_newRecord_41 rfl hk1 (Nat.le_of_ble_eq_true rfl) rfl lf_X12_341 ?_
        obtain ⟨hk12, h⟩ := ao_some h
        obtain ⟨hb13, h⟩ := ao_some h
        refine an_iastore j11 dX12_newRecord_44 hk12 hb13 (fun M14 hM14 => ?_)
        replace h := ao_letD h hM14
        refine ao_aload_n 0 dX12_newRecord_45 rfl rfl ?_
        refine an_getI r0 12 76 (q := (RX12, TX12, 83)) dX12_newRecord_46 rfl hk1 (Nat.le_of_ble_eq_true rfl) rfl lf_X12_338 ?_
        refine ao_bipush (v := 26) dX12_newRecord_49 (by decide) ?_
        refine ao_imul dX12_newRecord_51 ?_
        refine an_topi (fun v15 hv15 => ?_)
        replace h := ao_letD h hv15
        refine ao_istore_n 3 (lo' := [some (.ref (Γ.2.2.2 + r0)), some (.int x1), some (.int x2), some (.int v15)]) dX12_newRecord_52 rfl (Nat.le_of_ble_eq_true rfl) rfl ?_
        exact ih.2 r0 x1 x2 v15 M14 _ h
      · replace h := ao_ifT h c2
        refine ao_iconst (v := (-1)) dX12_newRecord_10 (by decide) ?_
        cases h
        exact ao_ireturn dX12_newRecord_11 rfl rfl ⟨rfl, rfl⟩
    · intro r0 x1 x2 x3 M y h
      replace h := ao_ifF h (by decide)
      replace h := ao_ifT h rfl
      refine ao_iload_n 3 dX12_newRecord_53 rfl rfl ?_
      refine ao_aload_n 0 dX12_newRecord_54 rfl rfl ?_
      obtain ⟨hk16, h⟩ := ao_some h
      refine an_getI r0 12 76 (q := (RX12, TX12, 83)) dX12_newRecord_55 rfl hk16 (Nat.le_of_ble_eq_true rfl) rfl lf_X12_338 ?_
      refine ao_bipush (v := 26) dX12_newRecord_58 (by decide) ?_
      refine ao_imul dX12_newRecord_60 ?_
      refine ao_bipush (v := 26) dX12_newRecord_61 (by decide) ?_
      refine ao_iadd dX12_newRecord_63 ?_
      refine ao_icmp_ge 87 dX12_newRecord_64 (by decide) (fun c17 => ?_) (fun c17 => ?_)
      · replace h := ao_ifT h c17
        refine ao_aload_n 0 dX12_newRecord_87 rfl rfl ?_
        refine ao_dup dX12_newRecord_88 rfl ?_
        refine an_getI r0 12 76 (q := (RX12, TX12, 83)) dX12_newRecord_89 rfl hk16 (Nat.le_of_ble_eq_true rfl) rfl lf_X12_338 ?_
        refine ao_iconst (v := 1) dX12_newRecord_92 (by decide) ?_
        refine ao_iadd dX12_newRecord_93 ?_
        refine an_putI r0 12 76 (q := (RX12, TX12, 83)) dX12_newRecord_94 rfl hk16 (Nat.le_of_ble_eq_true rfl) lf_X12_338 rfl rfl rfl rfl (fun M18 hM18 => ?_)
        replace h := ao_letD h hM18
        refine ao_aload_n 0 dX12_newRecord_97 rfl rfl ?_
        refine an_getI r0 12 76 (q := (RX12, TX12, 83)) dX12_newRecord_98 rfl hk16 (Nat.le_of_ble_eq_true rfl) rfl lf_X12_338 ?_
        refine ao_iconst (v := 1) dX12_newRecord_101 (by decide) ?_
        refine ao_isub dX12_newRecord_102 ?_
        cases h
        exact ao_ireturn dX12_newRecord_103 rfl rfl ⟨rfl, rfl⟩
      · replace h := ao_ifF h c17
        refine ao_aload_n 0 dX12_newRecord_67 rfl rfl ?_
        obtain ⟨j19, hj19, h⟩ := ao_bind h
        refine an_getR r0 12 74 (q := (RX12, TX12, 83)) dX12_newRecord_68 rfl hk16 (Nat.le_of_ble_eq_true rfl) rfl lf_X12_311 hj19 ?_
        refine ao_iload_n 3 dX12_newRecord_71 rfl rfl ?_
        refine ao_iconst (v := 0) dX12_newRecord_72 (by decide) ?_
        obtain ⟨hk20, h⟩ := ao_some h
        obtain ⟨hb21, h⟩ := ao_some h
        refine an_zastore j19 dX12_newRecord_73 hk20 hb21 rfl (fun M22 hM22 => ?_)
        replace h := ao_letD h hM22
        refine ao_aload_n 0 dX12_newRecord_74 rfl rfl ?_
        obtain ⟨j23, hj23, h⟩ := ao_bind h
        refine an_getR r0 12 75 (q := (RX12, TX12, 83)) dX12_newRecord_75 rfl hk16 (Nat.le_of_ble_eq_true rfl) rfl lf_X12_314 hj23 ?_
        refine ao_iload_n 3 dX12_newRecord_78 rfl rfl ?_
        refine ao_iconst (v := 0) dX12_newRecord_79 (by decide) ?_
        obtain ⟨hk24, h⟩ := ao_some h
        obtain ⟨hb25, h⟩ := ao_some h
        refine an_zastore j23 dX12_newRecord_80 hk24 hb25 rfl (fun M26 hM26 => ?_)
        replace h := ao_letD h hM26
        obtain ⟨v27, hv27⟩ : ∃ z : Int32, z = x3 + (1 : Int32) := ⟨_, rfl⟩
        replace h := ao_letD h hv27
        refine ao_iinc 3 (v := v27) (lo' := [some (.ref (Γ.2.2.2 + r0)), some (.int x1), some (.int x2), some (.int v27)]) dX12_newRecord_81 rfl (by rw [hv27]; rfl) (Nat.le_of_ble_eq_true rfl) rfl ?_
        refine ao_goto 53 dX12_newRecord_84 (by decide) ?_
        exact ih.2 r0 x1 x2 v27 M26 _ h
set_option maxRecDepth 100000 in
set_option maxHeartbeats 4000000 in
theorem aX12_newRecord {Γ : ao_C} (d : Nat) (hd : 0 ≤ d) (n : Nat) (r0 : Nat) (x1 : Int32) (x2 : Int32) (M : ao_M) (ρ : ao_H) {y : Int32 × ao_M} (h : gX12_newRecord n r0 x1 x2 M ρ = some y) : ao_A Γ uX12_newRecord d 0 0 [.ref (Γ.2.2.2 + r0), .int x1, .int x2] (M, ρ) (ao_PI ρ y) := by
  refine ao_of (by decide) (ao_cat1 (Nat.le_of_ble_eq_true rfl)) (Nat.le_of_ble_eq_true rfl) ?_
  show ao_W Γ uX12_newRecord (ao_rm d 0 0) (ao_Q Γ (ao_PI ρ y) 0 0) 0 0 0 [some (.ref (Γ.2.2.2 + r0)), some (.int x1), some (.int x2), none] [] (M, ρ)
  exact (wX12_newRecord d hd n).1 r0 x1 x2 M y h

abbrev uX12_leave : ao_Mi := (yX12_leave, cX12_leave, 2, none, [])
def fX12_leave : Nat → Nat → Nat → Int32 →  ao_M → ao_H → Option (ao_S)
  | 0, _, _, _, _, _ => none
  | n + 1, pc, r0, x1, M, ρ =>
    if pc = 0 then
      if ρ.2.1 r0 = 22 then
      (gX12_free n r0 x1 M ρ).bind fun p2 =>
      fX12_leave n 5 r0 x1 p2.1 p2.2
      else none
    else if pc = 5 then
      if ρ.2.1 r0 = 22 then
      (ρ.1 r0 34).bind fun j4 =>
      if ρ.2.1 j4 = 0 then
      if ¬ (x1 < 0 ∨ ρ.2.2.1 j4 ≤ x1.toNatClampNeg) then
      ao_let (ao_u M j4 x1.toNatClampNeg (0 : Int32)) fun M7 =>
      (gX12_clearLevel n r0 x1 (0 : Int32) M7 ρ).bind fun p8 =>
      (ρ.1 r0 29).bind fun j9 =>
      if ρ.2.1 j9 = 0 then
      if ¬ (x1 < 0 ∨ ρ.2.2.1 j9 ≤ x1.toNatClampNeg) then
      ao_let (ao_u p8 j9 x1.toNatClampNeg (1 : Int32)) fun M12 =>
      some (M12, ρ)
      else none
      else none
      else none
      else none
      else none
    else none
def gX12_leave (n : Nat) (r0 : Nat) (x1 : Int32) (M : ao_M) (ρ : ao_H) : Option (ao_S) := fX12_leave n 0 r0 x1 M ρ
set_option maxRecDepth 100000 in
set_option maxHeartbeats 4000000 in
theorem mX12_leave : ∀ n : Nat, (∀ (r0 : Nat) (x1 : Int32) (M : ao_M) (ρ : ao_H) (y : ao_S), fX12_leave n 0 r0 x1 M ρ = some y → ao_le ρ y.2) ∧ (∀ (r0 : Nat) (x1 : Int32) (M : ao_M) (ρ : ao_H) (y : ao_S), fX12_leave n 5 r0 x1 M ρ = some y → ao_le ρ y.2) := by
  intro n
  induction n with
  | zero => exact ⟨fun _ _ _ _ _ h => ao_no h, fun _ _ _ _ _ h => ao_no h⟩
  | succ n ih =>
    refine ⟨?_, ?_⟩
    · intro r0 x1 M ρ y h
      replace h := ao_ifT h rfl
      obtain ⟨-, h⟩ := ao_some h
      obtain ⟨p2, hp2, h⟩ := ao_bind h
      exact ao_le_tr (me_X12_free n r0 x1 M ρ hp2) (ih.2 r0 x1 p2.1 p2.2 _ h)
    · intro r0 x1 M ρ y h
      replace h := ao_ifF h (by decide)
      replace h := ao_ifT h rfl
      obtain ⟨-, h⟩ := ao_some h
      obtain ⟨j4, hj4, h⟩ := ao_bind h
      obtain ⟨-, h⟩ := ao_some h
      obtain ⟨-, h⟩ := ao_some h
      replace h := ao_letD h rfl
      generalize (ao_u M j4 x1.toNatClampNeg (0 : Int32)) = M7 at h
      obtain ⟨p8, hp8, h⟩ := ao_bind h
      obtain ⟨j9, hj9, h⟩ := ao_bind h
      obtain ⟨-, h⟩ := ao_some h
      obtain ⟨-, h⟩ := ao_some h
      replace h := ao_letD h rfl
      generalize (ao_u p8 j9 x1.toNatClampNeg (1 : Int32)) = M12 at h
      cases h
      exact ao_le_rf _
set_option maxRecDepth 100000 in
set_option maxHeartbeats 4000000 in
theorem wX12_leave {Γ : ao_C} (d : Nat) (hd : 3 ≤ d) (MC MS : Nat) : ∀ n : Nat, (∀ (r0 : Nat) (x1 : Int32) (M : ao_M) (ρ : ao_H) (y : ao_S), fX12_leave n 0 r0 x1 M ρ = some y → ao_W Γ uX12_leave (ao_rm d MC MS) (ao_Q Γ (ao_QV y) MC MS) (ao_dc ρ y.2) (ao_ds ρ y.2) 0 [some (.ref (Γ.2.2.2 + r0)), some (.int x1)] [] (M, ρ)) ∧ (∀ (r0 : Nat) (x1 : Int32) (M : ao_M) (ρ : ao_H) (y : ao_S), fX12_leave n 5 r0 x1 M ρ = some y → ao_W Γ uX12_leave (ao_rm d MC MS) (ao_Q Γ (ao_QV y) MC MS) (ao_dc ρ y.2) (ao_ds ρ y.2) 5 [some (.ref (Γ.2.2.2 + r0)), some (.int x1)] [] (M, ρ)) := by
  intro n
  induction n with
  | zero => exact ⟨fun _ _ _ _ _ h => ao_no h, fun _ _ _ _ _ h => ao_no h⟩
  | succ n ih =>
    refine ⟨?_, ?_⟩
    · intro r0 x1 M ρ y h
      replace h := ao_ifT h rfl
      refine ao_aload_n 0 dX12_leave_0 rfl rfl ?_
      refine ao_iload_n 1 dX12_leave_1 rfl rfl ?_
      obtain ⟨hk1, h⟩ := ao_some h
      obtain ⟨p2, hp2, h⟩ := ao_bind h
      refine ba_callVv r0 12 (q := (RX12, TX12, 83)) [.int x1] (aX12_free (d - 1) (by omega) n r0 x1 M ρ hp2) dX12_leave_2 lc_X12_386 li_X12_free ls_X12_free rfl hk1 rfl rfl (Nat.le_of_ble_eq_true rfl) (ao_hR (by omega) (by decide)) (ao_leC (me_X12_free n r0 x1 M ρ hp2) ((mX12_leave n).2 r0 x1 p2.1 p2.2 _ h)) (ao_leS (me_X12_free n r0 x1 M ρ hp2) ((mX12_leave n).2 r0 x1 p2.1 p2.2 _ h)) ?_
      exact ih.2 r0 x1 p2.1 p2.2 _ h
    · intro r0 x1 M ρ y h
      replace h := ao_ifF h (by decide)
      replace h := ao_ifT h rfl
      refine ao_aload_n 0 dX12_leave_5 rfl rfl ?_
      obtain ⟨hk3, h⟩ := ao_some h
      obtain ⟨j4, hj4, h⟩ := ao_bind h
      refine an_getR r0 12 34 (q := (RX12, TX12, 83)) dX12_leave_6 rfl hk3 (Nat.le_of_ble_eq_true rfl) rfl lf_X12_202 hj4 ?_
      refine ao_iload_n 1 dX12_leave_9 rfl rfl ?_
      refine ao_iconst (v := 0) dX12_leave_10 (by decide) ?_
      obtain ⟨hk5, h⟩ := ao_some h
      obtain ⟨hb6, h⟩ := ao_some h
      refine an_iastore j4 dX12_leave_11 hk5 hb6 (fun M7 hM7 => ?_)
      replace h := ao_letD h hM7
      refine ao_aload_n 0 dX12_leave_12 rfl rfl ?_
      refine ao_iload_n 1 dX12_leave_13 rfl rfl ?_
      refine ao_iconst (v := 0) dX12_leave_14 (by decide) ?_
      obtain ⟨p8, hp8, h⟩ := ao_bind h
      refine an_callVv r0 12 (q := (RX12, TX12, 83)) [.int x1, .int (0 : Int32)] (aX12_clearLevel (d - 1) (by omega) _ r0 x1 (0 : Int32) M7 ρ hp8) dX12_leave_15 lc_X12_353 li_X12_clearLevel ls_X12_clearLevel rfl hk3 rfl rfl (Nat.le_of_ble_eq_true rfl) (ao_hR (by omega) (by decide)) ?_
      refine ao_aload_n 0 dX12_leave_18 rfl rfl ?_
      obtain ⟨j9, hj9, h⟩ := ao_bind h
      refine an_getR r0 12 29 (q := (RX12, TX12, 83)) dX12_leave_19 rfl hk3 (Nat.le_of_ble_eq_true rfl) rfl lf_X12_187 hj9 ?_
      refine ao_iload_n 1 dX12_leave_22 rfl rfl ?_
      refine ao_iconst (v := 1) dX12_leave_23 (by decide) ?_
      obtain ⟨hk10, h⟩ := ao_some h
      obtain ⟨hb11, h⟩ := ao_some h
      refine an_iastore j9 dX12_leave_24 hk10 hb11 (fun M12 hM12 => ?_)
      replace h := ao_letD h hM12
      cases h
      exact ao_return dX12_leave_25 rfl ⟨rfl, rfl⟩
theorem me_X12_leave (n : Nat) (r0 : Nat) (x1 : Int32) (M : ao_M) (ρ : ao_H) {y : ao_S} (h : gX12_leave n r0 x1 M ρ = some y) : ao_le ρ y.2 := (mX12_leave n).1 r0 x1 M ρ y h
set_option maxRecDepth 100000 in
set_option maxHeartbeats 4000000 in
theorem aX12_leave {Γ : ao_C} (d : Nat) (hd : 3 ≤ d) (n : Nat) (r0 : Nat) (x1 : Int32) (M : ao_M) (ρ : ao_H) {y : ao_S} (h : gX12_leave n r0 x1 M ρ = some y) : ao_A Γ uX12_leave d (ao_dc ρ y.2) (ao_ds ρ y.2) [.ref (Γ.2.2.2 + r0), .int x1] (M, ρ) (ao_QV y) := by
  refine ao_of (by decide) (ao_cat1 (Nat.le_of_ble_eq_true rfl)) (Nat.le_of_ble_eq_true rfl) ?_
  show ao_W Γ uX12_leave (ao_rm d (ao_dc ρ y.2) (ao_ds ρ y.2)) (ao_Q Γ (ao_QV y) (ao_dc ρ y.2) (ao_ds ρ y.2)) (ao_dc ρ y.2) (ao_ds ρ y.2) 0 [some (.ref (Γ.2.2.2 + r0)), some (.int x1)] [] (M, ρ)
  exact (wX12_leave d hd _ _ n).1 r0 x1 M ρ y h

abbrev uX12_pop : ao_Mi := (yX12_pop, cX12_pop, 2, (some .int), [])
def gX12_pop (r0 : Nat) (x1 : Int32) (M : ao_M) (ρ : ao_H) : Option (Int32 × ao_M) :=
  if ρ.2.1 r0 = 22 then
  (ρ.1 r0 33).bind fun j2 =>
  if ρ.2.1 j2 = 0 then
  if ¬ (x1 < 0 ∨ ρ.2.2.1 j2 ≤ x1.toNatClampNeg) then
  ao_let (ao_u M j2 x1.toNatClampNeg ((M j2 x1.toNatClampNeg) - (1 : Int32))) fun M5 =>
  (ρ.1 r0 32).bind fun j6 =>
  if ρ.2.1 j6 = 0 then
  if ¬ (((x1 * (64 : Int32)) + (M5 j2 x1.toNatClampNeg)) < 0 ∨ ρ.2.2.1 j6 ≤ ((x1 * (64 : Int32)) + (M5 j2 x1.toNatClampNeg)).toNatClampNeg) then
  some ((M5 j6 ((x1 * (64 : Int32)) + (M5 j2 x1.toNatClampNeg)).toNatClampNeg), M5)
  else none
  else none
  else none
  else none
  else none
set_option maxRecDepth 100000 in
set_option maxHeartbeats 4000000 in
theorem aX12_pop {Γ : ao_C} (d : Nat) (hd : 0 ≤ d) (r0 : Nat) (x1 : Int32) (M : ao_M) (ρ : ao_H) {y : Int32 × ao_M} (h : gX12_pop r0 x1 M ρ = some y) : ao_A Γ uX12_pop d 0 0 [.ref (Γ.2.2.2 + r0), .int x1] (M, ρ) (ao_PI ρ y) := by
  refine ao_of (by decide) (ao_cat1 (Nat.le_of_ble_eq_true rfl)) (Nat.le_of_ble_eq_true rfl) ?_
  show ao_W Γ uX12_pop (ao_rm d 0 0) (ao_Q Γ (ao_PI ρ y) 0 0) 0 0 0 [some (.ref (Γ.2.2.2 + r0)), some (.int x1)] [] (M, ρ)
  unfold gX12_pop at h
  refine ao_aload_n 0 dX12_pop_0 rfl rfl ?_
  obtain ⟨hk1, h⟩ := ao_some h
  obtain ⟨j2, hj2, h⟩ := ao_bind h
  refine an_getR r0 12 33 (q := (RX12, TX12, 83)) dX12_pop_1 rfl hk1 (Nat.le_of_ble_eq_true rfl) rfl lf_X12_199 hj2 ?_
  refine ao_iload_n 1 dX12_pop_4 rfl rfl ?_
  refine ao_dup2 dX12_pop_5 rfl rfl ?_
  obtain ⟨hk3, h⟩ := ao_some h
  obtain ⟨hb4, h⟩ := ao_some h
  refine an_iaload j2 dX12_pop_6 hk3 hb4 ?_
  refine ao_iconst (v := 1) dX12_pop_7 (by decide) ?_
  refine ao_isub dX12_pop_8 ?_
  refine an_iastore j2 dX12_pop_9 hk3 hb4 (fun M5 hM5 => ?_)
  replace h := ao_letD h hM5
  refine ao_aload_n 0 dX12_pop_10 rfl rfl ?_
  obtain ⟨j6, hj6, h⟩ := ao_bind h
  refine an_getR r0 12 32 (q := (RX12, TX12, 83)) dX12_pop_11 rfl hk1 (Nat.le_of_ble_eq_true rfl) rfl lf_X12_196 hj6 ?_
  refine ao_iload_n 1 dX12_pop_14 rfl rfl ?_
  refine ao_bipush (v := 64) dX12_pop_15 (by decide) ?_
  refine ao_imul dX12_pop_17 ?_
  refine ao_aload_n 0 dX12_pop_18 rfl rfl ?_
  refine an_getR r0 12 33 (q := (RX12, TX12, 83)) dX12_pop_19 rfl hk1 (Nat.le_of_ble_eq_true rfl) rfl lf_X12_199 hj2 ?_
  refine ao_iload_n 1 dX12_pop_22 rfl rfl ?_
  refine an_iaload j2 dX12_pop_23 hk3 hb4 ?_
  refine ao_iadd dX12_pop_24 ?_
  obtain ⟨hk7, h⟩ := ao_some h
  obtain ⟨hb8, h⟩ := ao_some h
  refine an_iaload j6 dX12_pop_25 hk7 hb8 ?_
  cases h
  exact ao_ireturn dX12_pop_26 rfl rfl ⟨rfl, rfl⟩

abbrev uX12_push : ao_Mi := (yX12_push, cX12_push, 3, none, [])
def gX12_push (r0 : Nat) (x1 : Int32) (x2 : Int32) (M : ao_M) (ρ : ao_H) : Option (ao_M) :=
  if ρ.2.1 r0 = 22 then
  (ρ.1 r0 32).bind fun j2 =>
  (ρ.1 r0 33).bind fun j3 =>
  if ρ.2.1 j3 = 0 then
  if ¬ (x1 < 0 ∨ ρ.2.2.1 j3 ≤ x1.toNatClampNeg) then
  if ρ.2.1 j2 = 0 then
  if ¬ (((x1 * (64 : Int32)) + (M j3 x1.toNatClampNeg)) < 0 ∨ ρ.2.2.1 j2 ≤ ((x1 * (64 : Int32)) + (M j3 x1.toNatClampNeg)).toNatClampNeg) then
  ao_let (ao_u M j2 ((x1 * (64 : Int32)) + (M j3 x1.toNatClampNeg)).toNatClampNeg x2) fun M8 =>
  ao_let (ao_u M8 j3 x1.toNatClampNeg ((M8 j3 x1.toNatClampNeg) + (1 : Int32))) fun M9 =>
  some M9
  else none
  else none
  else none
  else none
  else none
set_option maxRecDepth 100000 in
set_option maxHeartbeats 4000000 in
theorem aX12_push {Γ : ao_C} (d : Nat) (hd : 0 ≤ d) (r0 : Nat) (x1 : Int32) (x2 : Int32) (M : ao_M) (ρ : ao_H) {y : ao_M} (h : gX12_push r0 x1 x2 M ρ = some y) : ao_A Γ uX12_push d 0 0 [.ref (Γ.2.2.2 + r0), .int x1, .int x2] (M, ρ) (ao_PV ρ y) := by
  refine ao_of (by decide) (ao_cat1 (Nat.le_of_ble_eq_true rfl)) (Nat.le_of_ble_eq_true rfl) ?_
  show ao_W Γ uX12_push (ao_rm d 0 0) (ao_Q Γ (ao_PV ρ y) 0 0) 0 0 0 [some (.ref (Γ.2.2.2 + r0)), some (.int x1), some (.int x2)] [] (M, ρ)
  unfold gX12_push at h
  refine ao_aload_n 0 dX12_push_0 rfl rfl ?_
  obtain ⟨hk1, h⟩ := ao_some h
  obtain ⟨j2, hj2, h⟩ := ao_bind h
  refine an_getR r0 12 32 (q := (RX12, TX12, 83)) dX12_push_1 rfl hk1 (Nat.le_of_ble_eq_true rfl) rfl lf_X12_196 hj2 ?_
  refine ao_iload_n 1 dX12_push_4 rfl rfl ?_
  refine ao_bipush (v := 64) dX12_push_5 (by decide) ?_
  refine ao_imul dX12_push_7 ?_
  refine ao_aload_n 0 dX12_push_8 rfl rfl ?_
  obtain ⟨j3, hj3, h⟩ := ao_bind h
  refine an_getR r0 12 33 (q := (RX12, TX12, 83)) dX12_push_9 rfl hk1 (Nat.le_of_ble_eq_true rfl) rfl lf_X12_199 hj3 ?_
  refine ao_iload_n 1 dX12_push_12 rfl rfl ?_
  obtain ⟨hk4, h⟩ := ao_some h
  obtain ⟨hb5, h⟩ := ao_some h
  refine an_iaload j3 dX12_push_13 hk4 hb5 ?_
  refine ao_iadd dX12_push_14 ?_
  refine ao_iload_n 2 dX12_push_15 rfl rfl ?_
  obtain ⟨hk6, h⟩ := ao_some h
  obtain ⟨hb7, h⟩ := ao_some h
  refine an_iastore j2 dX12_push_16 hk6 hb7 (fun M8 hM8 => ?_)
  replace h := ao_letD h hM8
  refine ao_aload_n 0 dX12_push_17 rfl rfl ?_
  refine an_getR r0 12 33 (q := (RX12, TX12, 83)) dX12_push_18 rfl hk1 (Nat.le_of_ble_eq_true rfl) rfl lf_X12_199 hj3 ?_
  refine ao_iload_n 1 dX12_push_21 rfl rfl ?_
  refine ao_dup2 dX12_push_22 rfl rfl ?_
  refine an_iaload j3 dX12_push_23 hk4 hb5 ?_
  refine ao_iconst (v := 1) dX12_push_24 (by decide) ?_
  refine ao_iadd dX12_push_25 ?_
  refine an_iastore j3 dX12_push_26 hk4 hb5 (fun M9 hM9 => ?_)
  replace h := ao_letD h hM9
  cases h
  exact ao_return dX12_push_27 rfl ⟨rfl, rfl⟩

abbrev uX12_isBusy : ao_Mi := (yX12_isBusy, cX12_isBusy, 3, (some .boolean), [])
def fX12_isBusy : Nat → Nat → Nat → Int32 → Int32 →  ao_M → ao_H → Option (Int32 × ao_M)
  | 0, _, _, _, _, _, _ => none
  | n + 1, pc, r0, x1, x2, M, ρ =>
    if pc = 0 then
      if ρ.2.1 r0 = 22 then
      if (M r0 27) = (4 : Int32) then
        fX12_isBusy n 12 r0 x1 (0 : Int32) M ρ
      else
        some ((0 : Int32), M)
      else none
    else if pc = 12 then
      if (6 : Int32) ≤ x2 then
        some ((0 : Int32), M)
      else
        if x2 = x1 then
          fX12_isBusy n 35 r0 x1 x2 M ρ
        else
          if ρ.2.1 r0 = 22 then
          (ρ.1 r0 29).bind fun j6 =>
          if ρ.2.1 j6 = 0 then
          if ¬ (x2 < 0 ∨ ρ.2.2.1 j6 ≤ x2.toNatClampNeg) then
          if (M j6 x2.toNatClampNeg) = (2 : Int32) then
            some ((1 : Int32), M)
          else
            fX12_isBusy n 35 r0 x1 x2 M ρ
          else none
          else none
          else none
    else if pc = 35 then
      ao_let (x2 + (1 : Int32)) fun v10 =>
      fX12_isBusy n 12 r0 x1 v10 M ρ
    else none
def gX12_isBusy (n : Nat) (r0 : Nat) (x1 : Int32) (M : ao_M) (ρ : ao_H) : Option (Int32 × ao_M) := fX12_isBusy n 0 r0 x1 0 M ρ
set_option maxRecDepth 100000 in
set_option maxHeartbeats 4000000 in
theorem wX12_isBusy {Γ : ao_C} {ρ : ao_H} (d : Nat) (hd : 0 ≤ d) : ∀ n : Nat, (∀ (r0 : Nat) (x1 : Int32) (M : ao_M) (y : Int32 × ao_M), fX12_isBusy n 0 r0 x1 0 M ρ = some y → ao_W Γ uX12_isBusy (ao_rm d 0 0) (ao_Q Γ (ao_PI ρ y) 0 0) 0 0 0 [some (.ref (Γ.2.2.2 + r0)), some (.int x1), none] [] (M, ρ)) ∧ (∀ (r0 : Nat) (x1 : Int32) (x2 : Int32) (M : ao_M) (y : Int32 × ao_M), fX12_isBusy n 12 r0 x1 x2 M ρ = some y → ao_W Γ uX12_isBusy (ao_rm d 0 0) (ao_Q Γ (ao_PI ρ y) 0 0) 0 0 12 [some (.ref (Γ.2.2.2 + r0)), some (.int x1), some (.int x2)] [] (M, ρ)) ∧ (∀ (r0 : Nat) (x1 : Int32) (x2 : Int32) (M : ao_M) (y : Int32 × ao_M), fX12_isBusy n 35 r0 x1 x2 M ρ = some y → ao_W Γ uX12_isBusy (ao_rm d 0 0) (ao_Q Γ (ao_PI ρ y) 0 0) 0 0 35 [some (.ref (Γ.2.2.2 + r0)), some (.int x1), some (.int x2)] [] (M, ρ)) := by
  intro n
  induction n with
  | zero => exact ⟨fun _ _ _ _ h => ao_no h, fun _ _ _ _ _ h => ao_no h, fun _ _ _ _ _ h => ao_no h⟩
  | succ n ih =>
    refine ⟨?_, ?_, ?_⟩
    · intro r0 x1 M y h
      replace h := ao_ifT h rfl
      refine ao_aload_n 0 dX12_isBusy_0 rfl rfl ?_
      obtain ⟨hk1, h⟩ := ao_some h
      refine an_getI r0 12 27 (q := (RX12, TX12, 83)) dX12_isBusy_1 rfl hk1 (Nat.le_of_ble_eq_true rfl) rfl lf_X12_332 ?_
      refine ao_iconst (v := 4) dX12_isBusy_4 (by decide) ?_
      refine ao_icmp_eq 10 dX12_isBusy_5 (by decide) (fun c2 => ?_) (fun c2 => ?_)
      · replace h := ao_ifT h c2
        refine ao_iconst (v := 0) dX12_isBusy_10 (by decide) ?_
        refine ao_istore_n 2 (lo' := [some (.ref (Γ.2.2.2 + r0)), some (.int x1), some (.int (0 : Int32))]) dX12_isBusy_11 rfl (Nat.le_of_ble_eq_true rfl) rfl ?_
        exact ih.2.1 r0 x1 (0 : Int32) M _ h
      · replace h := ao_ifF h c2
        refine ao_iconst (v := 0) dX12_isBusy_8 (by decide) ?_
        cases h
        exact ao_ireturn dX12_isBusy_9 rfl rfl ⟨rfl, rfl⟩
    · intro r0 x1 x2 M y h
      replace h := ao_ifF h (by decide)
      replace h := ao_ifT h rfl
      refine ao_iload_n 2 dX12_isBusy_12 rfl rfl ?_
      refine ao_bipush (v := 6) dX12_isBusy_13 (by decide) ?_
      refine ao_icmp_ge 41 dX12_isBusy_15 (by decide) (fun c3 => ?_) (fun c3 => ?_)
      · replace h := ao_ifT h c3
        refine ao_iconst (v := 0) dX12_isBusy_41 (by decide) ?_
        cases h
        exact ao_ireturn dX12_isBusy_42 rfl rfl ⟨rfl, rfl⟩
      · replace h := ao_ifF h c3
        refine ao_iload_n 2 dX12_isBusy_18 rfl rfl ?_
        refine ao_iload_n 1 dX12_isBusy_19 rfl rfl ?_
        refine ao_icmp_eq 35 dX12_isBusy_20 (by decide) (fun c4 => ?_) (fun c4 => ?_)
        · replace h := ao_ifT h c4
          exact ih.2.2 r0 x1 x2 M _ h
        · replace h := ao_ifF h c4
          refine ao_aload_n 0 dX12_isBusy_23 rfl rfl ?_
          obtain ⟨hk5, h⟩ := ao_some h
          obtain ⟨j6, hj6, h⟩ := ao_bind h
          refine an_getR r0 12 29 (q := (RX12, TX12, 83)) dX12_isBusy_24 rfl hk5 (Nat.le_of_ble_eq_true rfl) rfl lf_X12_187 hj6 ?_
          refine ao_iload_n 2 dX12_isBusy_27 rfl rfl ?_
          obtain ⟨hk7, h⟩ := ao_some h
          obtain ⟨hb8, h⟩ := ao_some h
          refine an_iaload j6 dX12_isBusy_28 hk7 hb8 ?_
          refine ao_iconst (v := 2) dX12_isBusy_29 (by decide) ?_
          refine ao_icmp_ne 35 dX12_isBusy_30 (by decide) (fun c9 => ?_) (fun c9 => ?_)
          · replace h := ao_ifF h c9
            exact ih.2.2 r0 x1 x2 M _ h
          · replace h := ao_ifT h c9
            refine ao_iconst (v := 1) dX12_isBusy_33 (by decide) ?_
            cases h
            exact ao_ireturn dX12_isBusy_34 rfl rfl ⟨rfl, rfl⟩
    · intro r0 x1 x2 M y h
      replace h := ao_ifF h (by decide)
      replace h := ao_ifF h (by decide)
      replace h := ao_ifT h rfl
      obtain ⟨v10, hv10⟩ : ∃ z : Int32, z = x2 + (1 : Int32) := ⟨_, rfl⟩
      replace h := ao_letD h hv10
      refine ao_iinc 2 (v := v10) (lo' := [some (.ref (Γ.2.2.2 + r0)), some (.int x1), some (.int v10)]) dX12_isBusy_35 rfl (by rw [hv10]; rfl) (Nat.le_of_ble_eq_true rfl) rfl ?_
      refine ao_goto 12 dX12_isBusy_38 (by decide) ?_
      exact ih.2.1 r0 x1 v10 M _ h
set_option maxRecDepth 100000 in
set_option maxHeartbeats 4000000 in
theorem aX12_isBusy {Γ : ao_C} (d : Nat) (hd : 0 ≤ d) (n : Nat) (r0 : Nat) (x1 : Int32) (M : ao_M) (ρ : ao_H) {y : Int32 × ao_M} (h : gX12_isBusy n r0 x1 M ρ = some y) : ao_A Γ uX12_isBusy d 0 0 [.ref (Γ.2.2.2 + r0), .int x1] (M, ρ) (ao_PI ρ y) := by
  refine ao_of (by decide) (ao_cat1 (Nat.le_of_ble_eq_true rfl)) (Nat.le_of_ble_eq_true rfl) ?_
  show ao_W Γ uX12_isBusy (ao_rm d 0 0) (ao_Q Γ (ao_PI ρ y) 0 0) 0 0 0 [some (.ref (Γ.2.2.2 + r0)), some (.int x1), none] [] (M, ρ)
  exact (wX12_isBusy d hd n).1 r0 x1 M y h

abbrev uX12_beginBlock : ao_Mi := (yX12_beginBlock, cX12_beginBlock, 7, (some .int), [])
def fX12_beginBlock : Nat → Nat → Nat → Int32 → Int32 → Int32 → Int32 → Int32 → Int32 → Int32 → Int32 → Nat →  ao_M → ao_H → Option (Int32 × ao_M)
  | 0, _, _, _, _, _, _, _, _, _, _, _, _, _ => none
  | n + 1, pc, r0, x1, x2, x3, x4, x5, x6, s0, s1, q2, M, ρ =>
    if pc = 0 then
      if (x2 - x2 / (2 : Int32) * (2 : Int32)) = (1 : Int32) then
        fX12_beginBlock n 12 r0 x1 x2 x3 0 0 0 (1 : Int32) 0 0 M ρ
      else
        fX12_beginBlock n 12 r0 x1 x2 x3 0 0 0 (0 : Int32) 0 0 M ρ
    else if pc = 12 then
      ao_let ((x2 / (2 : Int32)) - (1 : Int32)) fun v2 =>
      if ρ.2.1 r0 = 22 then
      (ρ.1 r0 29).bind fun j4 =>
      if ρ.2.1 j4 = 0 then
      if ¬ (x1 < 0 ∨ ρ.2.2.1 j4 ≤ x1.toNatClampNeg) then
      if (M j4 x1.toNatClampNeg) = (2 : Int32) then
        (ρ.1 r0 30).bind fun j8 =>
        if ρ.2.1 j8 = 0 then
        if ¬ (x1 < 0 ∨ ρ.2.2.1 j8 ≤ x1.toNatClampNeg) then
        ao_let (ao_u M j8 x1.toNatClampNeg ((M j8 x1.toNatClampNeg) + (1 : Int32))) fun M11 =>
        if s0 = 0 then
          fX12_beginBlock n 172 r0 x1 x2 x3 s0 v2 0 0 0 0 M11 ρ
        else
          if v2 < 0 then
            fX12_beginBlock n 177 r0 x1 x2 x3 s0 v2 0 (0 : Int32) 0 0 M11 ρ
          else
            fX12_beginBlock n 172 r0 x1 x2 x3 s0 v2 0 0 0 0 M11 ρ
        else none
        else none
      else
        (gX12_isBusy n r0 x1 M ρ).bind fun p14 =>
        if p14.1 = 0 then
          (ρ.1 r0 30).bind fun j16 =>
          if ρ.2.1 j16 = 0 then
          if ¬ (x1 < 0 ∨ ρ.2.2.1 j16 ≤ x1.toNatClampNeg) then
          ao_let (ao_u p14.2 j16 x1.toNatClampNeg ((p14.2 j16 x1.toNatClampNeg) + (1 : Int32))) fun M19 =>
          (gX12_openLevel n r0 x1 v2 x3 M19 ρ).bind fun p20 =>
          (ρ.1 r0 43).bind fun j21 =>
          (ρ.1 r0 35).bind fun j22 =>
          if ρ.2.1 j22 = 0 then
          if ¬ (x1 < 0 ∨ ρ.2.2.1 j22 ≤ x1.toNatClampNeg) then
          (gX12_level r0 x1 (p20 j22 x1.toNatClampNeg) p20 ρ).bind fun p25 =>
          if ρ.2.1 j21 = 0 then
          if ¬ (p25.1 < 0 ∨ ρ.2.2.1 j21 ≤ p25.1.toNatClampNeg) then
          ao_let (ao_u p25.2 j21 p25.1.toNatClampNeg (0 : Int32)) fun M28 =>
          ao_let (ao_u M28 j22 x1.toNatClampNeg ((M28 j22 x1.toNatClampNeg) + (1 : Int32))) fun M29 =>
          (ρ.1 r0 51).bind fun j30 =>
          (gX12_level r0 x1 (0 : Int32) M29 ρ).bind fun p31 =>
          if ρ.2.1 j30 = 0 then
          if ¬ (p31.1 < 0 ∨ ρ.2.2.1 j30 ≤ p31.1.toNatClampNeg) then
          ao_let (ao_u p31.2 j30 p31.1.toNatClampNeg (p31.2 j22 x1.toNatClampNeg)) fun M34 =>
          ao_let (ao_u M34 j4 x1.toNatClampNeg (2 : Int32)) fun M35 =>
          (ρ.1 r0 38).bind fun j36 =>
          if ρ.2.1 j36 = 0 then
          if ¬ (x1 < 0 ∨ ρ.2.2.1 j36 ≤ x1.toNatClampNeg) then
          ao_let (ao_u M35 j36 x1.toNatClampNeg (M35 r0 26)) fun M39 =>
          (ρ.1 r0 41).bind fun j40 =>
          if ρ.2.1 j40 = 0 then
          if ¬ (x1 < 0 ∨ ρ.2.2.1 j40 ≤ x1.toNatClampNeg) then
          ao_let (ao_u M39 j40 x1.toNatClampNeg (M39 r0 63)) fun M43 =>
          ao_let (ao_u M43 r0 63 ((M43 r0 63) + (1 : Int32))) fun M44 =>
          (ρ.1 r0 42).bind fun j45 =>
          if ρ.2.1 j45 = 0 then
          if ¬ (x1 < 0 ∨ ρ.2.2.1 j45 ≤ x1.toNatClampNeg) then
          ao_let (ao_u M44 j45 x1.toNatClampNeg (M44 r0 65)) fun M48 =>
          some ((0 : Int32), M48)
          else none
          else none
          else none
          else none
          else none
          else none
          else none
          else none
          else none
          else none
          else none
          else none
          else none
          else none
        else
          some ((4 : Int32), p14.2)
      else none
      else none
      else none
    else if pc = 172 then
      fX12_beginBlock n 177 r0 x1 x2 x3 x4 x5 0 (1 : Int32) 0 0 M ρ
    else if pc = 177 then
      if ρ.2.1 r0 = 22 then
      (ρ.1 r0 43).bind fun j50 =>
      (ρ.1 r0 35).bind fun j51 =>
      if ρ.2.1 j51 = 0 then
      if ¬ (x1 < 0 ∨ ρ.2.2.1 j51 ≤ x1.toNatClampNeg) then
      (gX12_level r0 x1 (M j51 x1.toNatClampNeg) M ρ).bind fun p54 =>
      if s0 = 0 then
        fX12_beginBlock n 209 r0 x1 x2 x3 x4 x5 s0 (-1 : Int32) p54.1 j50 p54.2 ρ
      else
        (ρ.1 r0 34).bind fun j56 =>
        if ρ.2.1 j56 = 0 then
        if ¬ (x1 < 0 ∨ ρ.2.2.1 j56 ≤ x1.toNatClampNeg) then
        fX12_beginBlock n 209 r0 x1 x2 x3 x4 x5 s0 (p54.2 j56 x1.toNatClampNeg) p54.1 j50 p54.2 ρ
        else none
        else none
      else none
      else none
      else none
    else if pc = 209 then
      if ρ.2.1 q2 = 0 then
      if ¬ (s1 < 0 ∨ ρ.2.2.1 q2 ≤ s1.toNatClampNeg) then
      ao_let (ao_u M q2 s1.toNatClampNeg s0) fun M61 =>
      if ρ.2.1 r0 = 22 then
      (ρ.1 r0 35).bind fun j63 =>
      if ρ.2.1 j63 = 0 then
      if ¬ (x1 < 0 ∨ ρ.2.2.1 j63 ≤ x1.toNatClampNeg) then
      ao_let (ao_u M61 j63 x1.toNatClampNeg ((M61 j63 x1.toNatClampNeg) + (1 : Int32))) fun M66 =>
      if x6 = 0 then
        some ((-1 : Int32), M66)
      else
        (gX12_openLevel n r0 x1 x5 x3 M66 ρ).bind fun p68 =>
        some ((-1 : Int32), p68)
      else none
      else none
      else none
      else none
      else none
    else none
def gX12_beginBlock (n : Nat) (r0 : Nat) (x1 : Int32) (x2 : Int32) (x3 : Int32) (M : ao_M) (ρ : ao_H) : Option (Int32 × ao_M) := fX12_beginBlock n 0 r0 x1 x2 x3 0 0 0 0 0 0 M ρ
set_option maxRecDepth 100000 in
set_option maxHeartbeats 4000000 in
theorem wX12_beginBlock {Γ : ao_C} {ρ : ao_H} (d : Nat) (hd : 3 ≤ d) : ∀ n : Nat, (∀ (r0 : Nat) (x1 : Int32) (x2 : Int32) (x3 : Int32) (M : ao_M) (y : Int32 × ao_M), fX12_beginBlock n 0 r0 x1 x2 x3 0 0 0 0 0 0 M ρ = some y → ao_W Γ uX12_beginBlock (ao_rm d 0 0) (ao_Q Γ (ao_PI ρ y) 0 0) 0 0 0 [some (.ref (Γ.2.2.2 + r0)), some (.int x1), some (.int x2), some (.int x3), none, none, none] [] (M, ρ)) ∧ (∀ (r0 : Nat) (x1 : Int32) (x2 : Int32) (x3 : Int32) (s0 : Int32) (M : ao_M) (y : Int32 × ao_M), fX12_beginBlock n 12 r0 x1 x2 x3 0 0 0 s0 0 0 M ρ = some y → ao_W Γ uX12_beginBlock (ao_rm d 0 0) (ao_Q Γ (ao_PI ρ y) 0 0) 0 0 12 [some (.ref (Γ.2.2.2 + r0)), some (.int x1), some (.int x2), some (.int x3), none, none, none] [.int s0] (M, ρ)) ∧ (∀ (r0 : Nat) (x1 : Int32) (x2 : Int32) (x3 : Int32) (x4 : Int32) (x5 : Int32) (M : ao_M) (y : Int32 × ao_M), fX12_beginBlock n 172 r0 x1 x2 x3 x4 x5 0 0 0 0 M ρ = some y → ao_W Γ uX12_beginBlock (ao_rm d 0 0) (ao_Q Γ (ao_PI ρ y) 0 0) 0 0 172 [some (.ref (Γ.2.2.2 + r0)), some (.int x1), some (.int x2), some (.int x3), some (.int x4), some (.int x5), none] [] (M, ρ)) ∧ (∀ (r0 : Nat) (x1 : Int32) (x2 : Int32) (x3 : Int32) (x4 : Int32) (x5 : Int32) (s0 : Int32) (M : ao_M) (y : Int32 × ao_M), fX12_beginBlock n 177 r0 x1 x2 x3 x4 x5 0 s0 0 0 M ρ = some y → ao_W Γ uX12_beginBlock (ao_rm d 0 0) (ao_Q Γ (ao_PI ρ y) 0 0) 0 0 177 [some (.ref (Γ.2.2.2 + r0)), some (.int x1), some (.int x2), some (.int x3), some (.int x4), some (.int x5), none] [.int s0] (M, ρ)) ∧ (∀ (r0 : Nat) (x1 : Int32) (x2 : Int32) (x3 : Int32) (x4 : Int32) (x5 : Int32) (x6 : Int32) (s0 : Int32) (s1 : Int32) (q2 : Nat) (M : ao_M) (y : Int32 × ao_M), fX12_beginBlock n 209 r0 x1 x2 x3 x4 x5 x6 s0 s1 q2 M ρ = some y → ao_W Γ uX12_beginBlock (ao_rm d 0 0) (ao_Q Γ (ao_PI ρ y) 0 0) 0 0 209 [some (.ref (Γ.2.2.2 + r0)), some (.int x1), some (.int x2), some (.int x3), some (.int x4), some (.int x5), some (.int x6)] [.int s0, .int s1, .ref (Γ.2.2.2 + q2)] (M, ρ)) := by
  intro n
  induction n with
  | zero => exact ⟨fun _ _ _ _ _ _ h => ao_no h, fun _ _ _ _ _ _ _ h => ao_no h, fun _ _ _ _ _ _ _ _ h => ao_no h, fun _ _ _ _ _ _ _ _ _ h => ao_no h, fun _ _ _ _ _ _ _ _ _ _ _ _ h => ao_no h⟩
  | succ n ih =>
    refine ⟨?_, ?_, ?_, ?_, ?_⟩
    · intro r0 x1 x2 x3 M y h
      replace h := ao_ifT h rfl
      refine ao_iload_n 2 dX12_beginBlock_0 rfl rfl ?_
      refine ao_iconst (v := 2) dX12_beginBlock_1 (by decide) ?_
      refine ao_irem dX12_beginBlock_2 (by decide) ?_
      refine ao_iconst (v := 1) dX12_beginBlock_3 (by decide) ?_
      refine ao_icmp_ne 11 dX12_beginBlock_4 (by decide) (fun c1 => ?_) (fun c1 => ?_)
      · replace h := ao_ifF h c1
        refine ao_iconst (v := 0) dX12_beginBlock_11 (by decide) ?_
        exact ih.2.1 r0 x1 x2 x3 (0 : Int32) M _ h
      · replace h := ao_ifT h c1
        refine ao_iconst (v := 1) dX12_beginBlock_7 (by decide) ?_
        refine ao_goto 12 dX12_beginBlock_8 (by decide) ?_
        exact ih.2.1 r0 x1 x2 x3 (1 : Int32) M _ h
    · intro r0 x1 x2 x3 s0 M y h
      replace h := ao_ifF h (by decide)
      replace h := ao_ifT h rfl
      refine ao_istore 4 (lo' := [some (.ref (Γ.2.2.2 + r0)), some (.int x1), some (.int x2), some (.int x3), some (.int s0), none, none]) dX12_beginBlock_12 (Nat.le_of_ble_eq_true rfl) rfl ?_
      refine ao_iload_n 2 dX12_beginBlock_14 rfl rfl ?_
      refine ao_iconst (v := 2) dX12_beginBlock_15 (by decide) ?_
      refine ao_idiv dX12_beginBlock_16 (by decide) ?_
      refine ao_iconst (v := 1) dX12_beginBlock_17 (by decide) ?_
      refine ao_isub dX12_beginBlock_18 ?_
      refine an_topi (fun v2 hv2 => ?_)
      replace h := ao_letD h hv2
      refine ao_istore 5 (lo' := [some (.ref (Γ.2.2.2 + r0)), some (.int x1), some (.int x2), some (.int x3), some (.int s0), some (.int v2), none]) dX12_beginBlock_19 (Nat.le_of_ble_eq_true rfl) rfl ?_
      refine ao_aload_n 0 dX12_beginBlock_21 rfl rfl ?_
      obtain ⟨hk3, h⟩ := ao_some h
      obtain ⟨j4, hj4, h⟩ := ao_bind h
      refine an_getR r0 12 29 (q := (RX12, TX12, 83)) dX12_beginBlock_22 rfl hk3 (Nat.le_of_ble_eq_true rfl) rfl lf_X12_187 hj4 ?_
      refine ao_iload_n 1 dX12_beginBlock_25 rfl rfl ?_
      obtain ⟨hk5, h⟩ := ao_some h
      obtain ⟨hb6, h⟩ := ao_some h
      refine an_iaload j4 dX12_beginBlock_26 hk5 hb6 ?_
      refine ao_iconst (v := 2) dX12_beginBlock_27 (by decide) ?_
      refine ao_icmp_eq 152 dX12_beginBlock_28 (by decide) (fun c7 => ?_) (fun c7 => ?_)
      · replace h := ao_ifT h c7
        refine ao_aload_n 0 dX12_beginBlock_152 rfl rfl ?_
        obtain ⟨j8, hj8, h⟩ := ao_bind h
        refine an_getR r0 12 30 (q := (RX12, TX12, 83)) dX12_beginBlock_153 rfl hk3 (Nat.le_of_ble_eq_true rfl) rfl lf_X12_190 hj8 ?_
        refine ao_iload_n 1 dX12_beginBlock_156 rfl rfl ?_
        refine ao_dup2 dX12_beginBlock_157 rfl rfl ?_
        obtain ⟨hk9, h⟩ := ao_some h
        obtain ⟨hb10, h⟩ := ao_some h
        refine an_iaload j8 dX12_beginBlock_158 hk9 hb10 ?_
        refine ao_iconst (v := 1) dX12_beginBlock_159 (by decide) ?_
        refine ao_iadd dX12_beginBlock_160 ?_
        refine an_iastore j8 dX12_beginBlock_161 hk9 hb10 (fun M11 hM11 => ?_)
        replace h := ao_letD h hM11
        refine ao_iload 4 dX12_beginBlock_162 rfl ?_
        refine ao_if_eq 172 dX12_beginBlock_164 (by decide) (fun c12 => ?_) (fun c12 => ?_)
        · replace h := ao_ifT h c12
          exact ih.2.2.1 r0 x1 x2 x3 s0 v2 M11 _ h
        · replace h := ao_ifF h c12
          refine ao_iload 5 dX12_beginBlock_167 rfl ?_
          refine ao_if_lt 176 dX12_beginBlock_169 (by decide) (fun c13 => ?_) (fun c13 => ?_)
          · replace h := ao_ifT h c13
            refine ao_iconst (v := 0) dX12_beginBlock_176 (by decide) ?_
            exact ih.2.2.2.1 r0 x1 x2 x3 s0 v2 (0 : Int32) M11 _ h
          · replace h := ao_ifF h c13
            exact ih.2.2.1 r0 x1 x2 x3 s0 v2 M11 _ h
      · replace h := ao_ifF h c7
        refine ao_aload_n 0 dX12_beginBlock_31 rfl rfl ?_
        refine ao_iload_n 1 dX12_beginBlock_32 rfl rfl ?_
        obtain ⟨p14, hp14, h⟩ := ao_bind h
        refine an_callVi r0 12 (q := (RX12, TX12, 83)) [.int x1] (aX12_isBusy (d - 1) (by omega) _ r0 x1 M ρ hp14) dX12_beginBlock_33 lc_X12_431 li_X12_isBusy ls_X12_isBusy rfl hk3 rfl rfl (Nat.le_of_ble_eq_true rfl) (ao_hR (by omega) (by decide)) ?_
        refine ao_if_eq 41 dX12_beginBlock_36 (by decide) (fun c15 => ?_) (fun c15 => ?_)
        · replace h := ao_ifT h c15
          refine ao_aload_n 0 dX12_beginBlock_41 rfl rfl ?_
          obtain ⟨j16, hj16, h⟩ := ao_bind h
          refine an_getR r0 12 30 (q := (RX12, TX12, 83)) dX12_beginBlock_42 rfl hk3 (Nat.le_of_ble_eq_true rfl) rfl lf_X12_190 hj16 ?_
          refine ao_iload_n 1 dX12_beginBlock_45 rfl rfl ?_
          refine ao_dup2 dX12_beginBlock_46 rfl rfl ?_
          obtain ⟨hk17, h⟩ := ao_some h
          obtain ⟨hb18, h⟩ := ao_some h
          refine an_iaload j16 dX12_beginBlock_47 hk17 hb18 ?_
          refine ao_iconst (v := 1) dX12_beginBlock_48 (by decide) ?_
          refine ao_iadd dX12_beginBlock_49 ?_
          refine an_iastore j16 dX12_beginBlock_50 hk17 hb18 (fun M19 hM19 => ?_)
          replace h := ao_letD h hM19
          refine ao_aload_n 0 dX12_beginBlock_51 rfl rfl ?_
          refine ao_iload_n 1 dX12_beginBlock_52 rfl rfl ?_
          refine ao_iload 5 dX12_beginBlock_53 rfl ?_
          refine ao_iload_n 3 dX12_beginBlock_55 rfl rfl ?_
          obtain ⟨p20, hp20, h⟩ := ao_bind h
          refine an_callVv r0 12 (q := (RX12, TX12, 83)) [.int x1, .int v2, .int x3] (aX12_openLevel (d - 1) (by omega) _ r0 x1 v2 x3 M19 ρ hp20) dX12_beginBlock_56 lc_X12_434 li_X12_openLevel ls_X12_openLevel rfl hk3 rfl rfl (Nat.le_of_ble_eq_true rfl) (ao_hR (by omega) (by decide)) ?_
          refine ao_aload_n 0 dX12_beginBlock_59 rfl rfl ?_
          obtain ⟨j21, hj21, h⟩ := ao_bind h
          refine an_getR r0 12 43 (q := (RX12, TX12, 83)) dX12_beginBlock_60 rfl hk3 (Nat.le_of_ble_eq_true rfl) rfl lf_X12_229 hj21 ?_
          refine ao_aload_n 0 dX12_beginBlock_63 rfl rfl ?_
          refine ao_iload_n 1 dX12_beginBlock_64 rfl rfl ?_
          refine ao_aload_n 0 dX12_beginBlock_65 rfl rfl ?_
          obtain ⟨j22, hj22, h⟩ := ao_bind h
          refine an_getR r0 12 35 (q := (RX12, TX12, 83)) dX12_beginBlock_66 rfl hk3 (Nat.le_of_ble_eq_true rfl) rfl lf_X12_205 hj22 ?_
          refine ao_iload_n 1 dX12_beginBlock_69 rfl rfl ?_
          obtain ⟨hk23, h⟩ := ao_some h
          obtain ⟨hb24, h⟩ := ao_some h
          refine an_iaload j22 dX12_beginBlock_70 hk23 hb24 ?_
          obtain ⟨p25, hp25, h⟩ := ao_bind h
          refine an_callVi r0 12 (q := (RX12, TX12, 83)) [.int x1, .int (p20 j22 x1.toNatClampNeg)] (aX12_level (d - 1) (by omega) r0 x1 (p20 j22 x1.toNatClampNeg) p20 ρ hp25) dX12_beginBlock_71 lc_X12_360 li_X12_level ls_X12_level rfl hk3 rfl rfl (Nat.le_of_ble_eq_true rfl) (ao_hR (by omega) (by decide)) ?_
          refine ao_iconst (v := 0) dX12_beginBlock_74 (by decide) ?_
          obtain ⟨hk26, h⟩ := ao_some h
          obtain ⟨hb27, h⟩ := ao_some h
          refine an_iastore j21 dX12_beginBlock_75 hk26 hb27 (fun M28 hM28 => ?_)
          replace h := ao_letD h hM28
          refine ao_aload_n 0 dX12_beginBlock_76 rfl rfl ?_
          refine an_getR r0 12 35 (q := (RX12, TX12, 83)) dX12_beginBlock_77 rfl hk3 (Nat.le_of_ble_eq_true rfl) rfl lf_X12_205 hj22 ?_
          refine ao_iload_n 1 dX12_beginBlock_80 rfl rfl ?_
          refine ao_dup2 dX12_beginBlock_81 rfl rfl ?_
          refine an_iaload j22 dX12_beginBlock_82 hk23 hb24 ?_
          refine ao_iconst (v := 1) dX12_beginBlock_83 (by decide) ?_
          refine ao_iadd dX12_beginBlock_84 ?_
          refine an_iastore j22 dX12_beginBlock_85 hk23 hb24 (fun M29 hM29 => ?_)
          replace h := ao_letD h hM29
          refine ao_aload_n 0 dX12_beginBlock_86 rfl rfl ?_
          obtain ⟨j30, hj30, h⟩ := ao_bind h
          refine an_getR r0 12 51 (q := (RX12, TX12, 83)) dX12_beginBlock_87 rfl hk3 (Nat.le_of_ble_eq_true rfl) rfl lf_X12_253 hj30 ?_
          refine ao_aload_n 0 dX12_beginBlock_90 rfl rfl ?_
          refine ao_iload_n 1 dX12_beginBlock_91 rfl rfl ?_
          refine ao_iconst (v := 0) dX12_beginBlock_92 (by decide) ?_
          obtain ⟨p31, hp31, h⟩ := ao_bind h
          refine an_callVi r0 12 (q := (RX12, TX12, 83)) [.int x1, .int (0 : Int32)] (aX12_level (d - 1) (by omega) r0 x1 (0 : Int32) M29 ρ hp31) dX12_beginBlock_93 lc_X12_360 li_X12_level ls_X12_level rfl hk3 rfl rfl (Nat.le_of_ble_eq_true rfl) (ao_hR (by omega) (by decide)) ?_
          refine ao_aload_n 0 dX12_beginBlock_96 rfl rfl ?_
          refine an_getR r0 12 35 (q := (RX12, TX12, 83)) dX12_beginBlock_97 rfl hk3 (Nat.le_of_ble_eq_true rfl) rfl lf_X12_205 hj22 ?_
          refine ao_iload_n 1 dX12_beginBlock_100 rfl rfl ?_
          refine an_iaload j22 dX12_beginBlock_101 hk23 hb24 ?_
          obtain ⟨hk32, h⟩ := ao_some h
          obtain ⟨hb33, h⟩ := ao_some h
          refine an_iastore j30 dX12_beginBlock_102 hk32 hb33 (fun M34 hM34 => ?_)
          replace h := ao_letD h hM34
          refine ao_aload_n 0 dX12_beginBlock_103 rfl rfl ?_
          refine an_getR r0 12 29 (q := (RX12, TX12, 83)) dX12_beginBlock_104 rfl hk3 (Nat.le_of_ble_eq_true rfl) rfl lf_X12_187 hj4 ?_
          refine ao_iload_n 1 dX12_beginBlock_107 rfl rfl ?_
          refine ao_iconst (v := 2) dX12_beginBlock_108 (by decide) ?_
          refine an_iastore j4 dX12_beginBlock_109 hk5 hb6 (fun M35 hM35 => ?_)
          replace h := ao_letD h hM35
          refine ao_aload_n 0 dX12_beginBlock_110 rfl rfl ?_
          obtain ⟨j36, hj36, h⟩ := ao_bind h
          refine an_getR r0 12 38 (q := (RX12, TX12, 83)) dX12_beginBlock_111 rfl hk3 (Nat.le_of_ble_eq_true rfl) rfl lf_X12_214 hj36 ?_
          refine ao_iload_n 1 dX12_beginBlock_114 rfl rfl ?_
          refine ao_aload_n 0 dX12_beginBlock_115 rfl rfl ?_
          refine an_getI r0 12 26 (q := (RX12, TX12, 83)) dX12_beginBlock_116 rfl hk3 (Nat.le_of_ble_eq_true rfl) rfl lf_X12_148 ?_
          obtain ⟨hk37, h⟩ := ao_some h
          obtain ⟨hb38, h⟩ := ao_some h
          refine an_iastore j36 dX12_beginBlock_119 hk37 hb38 (fun M39 hM39 => ?_)
          replace h := ao_letD h hM39
          refine ao_aload_n 0 dX12_beginBlock_120 rfl rfl ?_
          obtain ⟨j40, hj40, h⟩ := ao_bind h
          refine an_getR r0 12 41 (q := (RX12, TX12, 83)) dX12_beginBlock_121 rfl hk3 (Nat.le_of_ble_eq_true rfl) rfl lf_X12_223 hj40 ?_
          refine ao_iload_n 1 dX12_beginBlock_124 rfl rfl ?_
          refine ao_aload_n 0 dX12_beginBlock_125 rfl rfl ?_
          refine an_getI r0 12 63 (q := (RX12, TX12, 83)) dX12_beginBlock_126 rfl hk3 (Nat.le_of_ble_eq_true rfl) rfl lf_X12_344 ?_
          obtain ⟨hk41, h⟩ := ao_some h
          obtain ⟨hb42, h⟩ := ao_some h
          refine an_iastore j40 dX12_beginBlock_129 hk41 hb42 (fun M43 hM43 => ?_)
          replace h := ao_letD h hM43
          refine ao_aload_n 0 dX12_beginBlock_130 rfl rfl ?_
          refine ao_dup dX12_beginBlock_131 rfl ?_
          refine an_getI r0 12 63 (q := (RX12, TX12, 83)) dX12_beginBlock_132 rfl hk3 (Nat.le_of_ble_eq_true rfl) rfl lf_X12_344 ?_
          refine ao_iconst (v := 1) dX12_beginBlock_135 (by decide) ?_
          refine ao_iadd dX12_beginBlock_136 ?_
          refine an_putI r0 12 63 (q := (RX12, TX12, 83)) dX12_beginBlock_137 rfl hk3 (Nat.le_of_ble_eq_true rfl) lf_X12_344 rfl rfl rfl rfl (fun M44 hM44 => ?_)
          replace h := ao_letD h hM44
          refine ao_aload_n 0 dX12_beginBlock_140 rfl rfl ?_
          obtain ⟨j45, hj45, h⟩ := ao_bind h
          refine an_getR r0 12 42 (q := (RX12, TX12, 83)) dX12_beginBlock_141 rfl hk3 (Nat.le_of_ble_eq_true rfl) rfl lf_X12_226 hj45 ?_
          refine ao_iload_n 1 dX12_beginBlock_144 rfl rfl ?_
          refine ao_aload_n 0 dX12_beginBlock_145 rfl rfl ?_
          refine an_getI r0 12 65 (q := (RX12, TX12, 83)) dX12_beginBlock_146 rfl hk3 (Nat.le_of_ble_eq_true rfl) rfl lf_X12_341 ?_
          obtain ⟨hk46, h⟩ := ao_some h
          obtain ⟨hb47, h⟩ := ao_some h
          refine an_iastore j45 dX12_beginBlock_149 hk46 hb47 (fun M48 hM48 => ?_)
          replace h := ao_letD h hM48
          refine ao_iconst (v := 0) dX12_beginBlock_150 (by decide) ?_
          cases h
          exact ao_ireturn dX12_beginBlock_151 rfl rfl ⟨rfl, rfl⟩
        · replace h := ao_ifF h c15
          refine ao_iconst (v := 4) dX12_beginBlock_39 (by decide) ?_
          cases h
          exact ao_ireturn dX12_beginBlock_40 rfl rfl ⟨rfl, rfl⟩
    · intro r0 x1 x2 x3 x4 x5 M y h
      replace h := ao_ifF h (by decide)
      replace h := ao_ifF h (by decide)
      replace h := ao_ifT h rfl
      refine ao_iconst (v := 1) dX12_beginBlock_172 (by decide) ?_
      refine ao_goto 177 dX12_beginBlock_173 (by decide) ?_
      exact ih.2.2.2.1 r0 x1 x2 x3 x4 x5 (1 : Int32) M _ h
    · intro r0 x1 x2 x3 x4 x5 s0 M y h
      replace h := ao_ifF h (by decide)
      replace h := ao_ifF h (by decide)
      replace h := ao_ifF h (by decide)
      replace h := ao_ifT h rfl
      refine ao_istore 6 (lo' := [some (.ref (Γ.2.2.2 + r0)), some (.int x1), some (.int x2), some (.int x3), some (.int x4), some (.int x5), some (.int s0)]) dX12_beginBlock_177 (Nat.le_of_ble_eq_true rfl) rfl ?_
      refine ao_aload_n 0 dX12_beginBlock_179 rfl rfl ?_
      obtain ⟨hk49, h⟩ := ao_some h
      obtain ⟨j50, hj50, h⟩ := ao_bind h
      refine an_getR r0 12 43 (q := (RX12, TX12, 83)) dX12_beginBlock_180 rfl hk49 (Nat.le_of_ble_eq_true rfl) rfl lf_X12_229 hj50 ?_
      refine ao_aload_n 0 dX12_beginBlock_183 rfl rfl ?_
      refine ao_iload_n 1 dX12_beginBlock_184 rfl rfl ?_
      refine ao_aload_n 0 dX12_beginBlock_185 rfl rfl ?_
      obtain ⟨j51, hj51, h⟩ := ao_bind h
      refine an_getR r0 12 35 (q := (RX12, TX12, 83)) dX12_beginBlock_186 rfl hk49 (Nat.le_of_ble_eq_true rfl) rfl lf_X12_205 hj51 ?_
      refine ao_iload_n 1 dX12_beginBlock_189 rfl rfl ?_
      obtain ⟨hk52, h⟩ := ao_some h
      obtain ⟨hb53, h⟩ := ao_some h
      refine an_iaload j51 dX12_beginBlock_190 hk52 hb53 ?_
      obtain ⟨p54, hp54, h⟩ := ao_bind h
      refine an_callVi r0 12 (q := (RX12, TX12, 83)) [.int x1, .int (M j51 x1.toNatClampNeg)] (aX12_level (d - 1) (by omega) r0 x1 (M j51 x1.toNatClampNeg) M ρ hp54) dX12_beginBlock_191 lc_X12_360 li_X12_level ls_X12_level rfl hk49 rfl rfl (Nat.le_of_ble_eq_true rfl) (ao_hR (by omega) (by decide)) ?_
      refine ao_iload 6 dX12_beginBlock_194 rfl ?_
      refine ao_if_eq 208 dX12_beginBlock_196 (by decide) (fun c55 => ?_) (fun c55 => ?_)
      · replace h := ao_ifT h c55
        refine ao_iconst (v := (-1)) dX12_beginBlock_208 (by decide) ?_
        exact ih.2.2.2.2 r0 x1 x2 x3 x4 x5 s0 (-1 : Int32) p54.1 j50 p54.2 _ h
      · replace h := ao_ifF h c55
        refine ao_aload_n 0 dX12_beginBlock_199 rfl rfl ?_
        obtain ⟨j56, hj56, h⟩ := ao_bind h
        refine an_getR r0 12 34 (q := (RX12, TX12, 83)) dX12_beginBlock_200 rfl hk49 (Nat.le_of_ble_eq_true rfl) rfl lf_X12_202 hj56 ?_
        refine ao_iload_n 1 dX12_beginBlock_203 rfl rfl ?_
        obtain ⟨hk57, h⟩ := ao_some h
        obtain ⟨hb58, h⟩ := ao_some h
        refine an_iaload j56 dX12_beginBlock_204 hk57 hb58 ?_
        refine ao_goto 209 dX12_beginBlock_205 (by decide) ?_
        exact ih.2.2.2.2 r0 x1 x2 x3 x4 x5 s0 (p54.2 j56 x1.toNatClampNeg) p54.1 j50 p54.2 _ h
    · intro r0 x1 x2 x3 x4 x5 x6 s0 s1 q2 M y h
      replace h := ao_ifF h (by decide)
      replace h := ao_ifF h (by decide)
      replace h := ao_ifF h (by decide)
      replace h := ao_ifF h (by decide)
      replace h := ao_ifT h rfl
      obtain ⟨hk59, h⟩ := ao_some h
      obtain ⟨hb60, h⟩ := ao_some h
      refine an_iastore q2 dX12_beginBlock_209 hk59 hb60 (fun M61 hM61 => ?_)
      replace h := ao_letD h hM61
      refine ao_aload_n 0 dX12_beginBlock_210 rfl rfl ?_
      obtain ⟨hk62, h⟩ := ao_some h
      obtain ⟨j63, hj63, h⟩ := ao_bind h
      refine an_getR r0 12 35 (q := (RX12, TX12, 83)) dX12_beginBlock_211 rfl hk62 (Nat.le_of_ble_eq_true rfl) rfl lf_X12_205 hj63 ?_
      refine ao_iload_n 1 dX12_beginBlock_214 rfl rfl ?_
      refine ao_dup2 dX12_beginBlock_215 rfl rfl ?_
      obtain ⟨hk64, h⟩ := ao_some h
      obtain ⟨hb65, h⟩ := ao_some h
      refine an_iaload j63 dX12_beginBlock_216 hk64 hb65 ?_
      refine ao_iconst (v := 1) dX12_beginBlock_217 (by decide) ?_
      refine ao_iadd dX12_beginBlock_218 ?_
      refine an_iastore j63 dX12_beginBlock_219 hk64 hb65 (fun M66 hM66 => ?_)
      replace h := ao_letD h hM66
      refine ao_iload 6 dX12_beginBlock_220 rfl ?_
      refine ao_if_eq 233 dX12_beginBlock_222 (by decide) (fun c67 => ?_) (fun c67 => ?_)
      · replace h := ao_ifT h c67
        refine ao_iconst (v := (-1)) dX12_beginBlock_233 (by decide) ?_
        cases h
        exact ao_ireturn dX12_beginBlock_234 rfl rfl ⟨rfl, rfl⟩
      · replace h := ao_ifF h c67
        refine ao_aload_n 0 dX12_beginBlock_225 rfl rfl ?_
        refine ao_iload_n 1 dX12_beginBlock_226 rfl rfl ?_
        refine ao_iload 5 dX12_beginBlock_227 rfl ?_
        refine ao_iload_n 3 dX12_beginBlock_229 rfl rfl ?_
        obtain ⟨p68, hp68, h⟩ := ao_bind h
        refine an_callVv r0 12 (q := (RX12, TX12, 83)) [.int x1, .int x5, .int x3] (aX12_openLevel (d - 1) (by omega) _ r0 x1 x5 x3 M66 ρ hp68) dX12_beginBlock_230 lc_X12_434 li_X12_openLevel ls_X12_openLevel rfl hk62 rfl rfl (Nat.le_of_ble_eq_true rfl) (ao_hR (by omega) (by decide)) ?_
        refine ao_iconst (v := (-1)) dX12_beginBlock_233 (by decide) ?_
        cases h
        exact ao_ireturn dX12_beginBlock_234 rfl rfl ⟨rfl, rfl⟩
set_option maxRecDepth 100000 in
set_option maxHeartbeats 4000000 in
theorem aX12_beginBlock {Γ : ao_C} (d : Nat) (hd : 3 ≤ d) (n : Nat) (r0 : Nat) (x1 : Int32) (x2 : Int32) (x3 : Int32) (M : ao_M) (ρ : ao_H) {y : Int32 × ao_M} (h : gX12_beginBlock n r0 x1 x2 x3 M ρ = some y) : ao_A Γ uX12_beginBlock d 0 0 [.ref (Γ.2.2.2 + r0), .int x1, .int x2, .int x3] (M, ρ) (ao_PI ρ y) := by
  refine ao_of (by decide) (ao_cat1 (Nat.le_of_ble_eq_true rfl)) (Nat.le_of_ble_eq_true rfl) ?_
  show ao_W Γ uX12_beginBlock (ao_rm d 0 0) (ao_Q Γ (ao_PI ρ y) 0 0) 0 0 0 [some (.ref (Γ.2.2.2 + r0)), some (.int x1), some (.int x2), some (.int x3), none, none, none] [] (M, ρ)
  exact (wX12_beginBlock d hd n).1 r0 x1 x2 x3 M y h
