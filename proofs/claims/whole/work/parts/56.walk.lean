abbrev uX12_retry : ao_Mi := (yX12_retry, cX12_retry, 4, (some .int), [])
def fX12_retry : Nat → Nat → Nat → Int32 → Int32 → Int32 → Int32 → Int32 → Nat →  ao_M → ao_H → Option (Int32 × ao_S)
  | 0, _, _, _, _, _, _, _, _, _, _ => none
  | n + 1, pc, r0, x1, x2, x3, s0, s1, q2, M, ρ =>
    if pc = 0 then
      if ρ.2.1 r0 = 22 then
      (ρ.1 r0 34).bind fun j2 =>
      if ρ.2.1 j2 = 0 then
      if ¬ (x1 < 0 ∨ ρ.2.2.1 j2 ≤ x1.toNatClampNeg) then
      ao_let ((M j2 x1.toNatClampNeg) - (1 : Int32)) fun v5 =>
      fX12_retry n 9 r0 x1 v5 0 0 0 0 M ρ
      else none
      else none
      else none
    else if pc = 9 then
      if x2 < 0 then
        fX12_retry n 47 r0 x1 x2 0 0 0 0 M ρ
      else
        if ρ.2.1 r0 = 22 then
        (ρ.1 r0 49).bind fun j8 =>
        (gX12_level r0 x1 x2 M ρ).bind fun p9 =>
        if ρ.2.1 j8 = 0 then
        if ¬ (p9.1 < 0 ∨ ρ.2.2.1 j8 ≤ p9.1.toNatClampNeg) then
        if (p9.2 j8 p9.1.toNatClampNeg) < 0 then
          fX12_retry n 41 r0 x1 x2 0 0 0 0 p9.2 ρ
        else
          (ρ.1 r0 54).bind fun j13 =>
          (gX12_level r0 x1 x2 p9.2 ρ).bind fun p14 =>
          if ρ.2.1 j13 = 2 then
          if ¬ (p14.1 < 0 ∨ ρ.2.2.1 j13 ≤ p14.1.toNatClampNeg) then
          if (p14.2 j13 p14.1.toNatClampNeg) = 0 then
            fX12_retry n 47 r0 x1 x2 0 0 0 0 p14.2 ρ
          else
            fX12_retry n 41 r0 x1 x2 0 0 0 0 p14.2 ρ
          else none
          else none
        else none
        else none
        else none
    else if pc = 41 then
      ao_let (x2 + (-1 : Int32)) fun v18 =>
      fX12_retry n 9 r0 x1 v18 0 0 0 0 M ρ
    else if pc = 47 then
      if 0 ≤ x2 then
        fX12_retry n 58 r0 x1 x2 0 x2 x1 r0 M ρ
      else
        fX12_retry n 58 r0 x1 x2 0 (0 : Int32) x1 r0 M ρ
    else if pc = 58 then
      if ρ.2.1 q2 = 22 then
      (gX12_level q2 s1 s0 M ρ).bind fun p21 =>
      ao_let p21.1 fun v22 =>
      if x2 < 0 then
        if ρ.2.1 r0 = 22 then
        (gX12_takeBackTo n r0 x1 (0 : Int32) (1 : Int32) p21.2 ρ).bind fun p25 =>
        (gX12_free n r0 x1 p25 ρ).bind fun p26 =>
        fX12_retry n 139 r0 x1 x2 v22 0 0 0 p26.1 p26.2
        else none
      else
        if ρ.2.1 r0 = 22 then
        (gX12_takeBackTo n r0 x1 x2 (1 : Int32) p21.2 ρ).bind fun p28 =>
        (ρ.1 r0 34).bind fun j29 =>
        if ρ.2.1 j29 = 0 then
        if ¬ (x1 < 0 ∨ ρ.2.2.1 j29 ≤ x1.toNatClampNeg) then
        ao_let (ao_u p28 j29 x1.toNatClampNeg (x2 + (1 : Int32))) fun M32 =>
        (ρ.1 r0 54).bind fun j33 =>
        if ρ.2.1 j33 = 2 then
        if ¬ (v22 < 0 ∨ ρ.2.2.1 j33 ≤ v22.toNatClampNeg) then
        ao_let (ao_u M32 j33 v22.toNatClampNeg (1 : Int32)) fun M36 =>
        (ρ.1 r0 30).bind fun j37 =>
        (ρ.1 r0 49).bind fun j38 =>
        if ρ.2.1 j38 = 0 then
        if ¬ (v22 < 0 ∨ ρ.2.2.1 j38 ≤ v22.toNatClampNeg) then
        if ρ.2.1 j37 = 0 then
        if ¬ (x1 < 0 ∨ ρ.2.2.1 j37 ≤ x1.toNatClampNeg) then
        ao_let (ao_u M36 j37 x1.toNatClampNeg (M36 j38 v22.toNatClampNeg)) fun M43 =>
        (ρ.1 r0 35).bind fun j44 =>
        (ρ.1 r0 51).bind fun j45 =>
        if ρ.2.1 j45 = 0 then
        if ¬ (v22 < 0 ∨ ρ.2.2.1 j45 ≤ v22.toNatClampNeg) then
        if ρ.2.1 j44 = 0 then
        if ¬ (x1 < 0 ∨ ρ.2.2.1 j44 ≤ x1.toNatClampNeg) then
        ao_let (ao_u M43 j44 x1.toNatClampNeg (M43 j45 v22.toNatClampNeg)) fun M50 =>
        (ρ.1 r0 36).bind fun j51 =>
        (ρ.1 r0 52).bind fun j52 =>
        if ρ.2.1 j52 = 0 then
        if ¬ (v22 < 0 ∨ ρ.2.2.1 j52 ≤ v22.toNatClampNeg) then
        if ρ.2.1 j51 = 0 then
        if ¬ (x1 < 0 ∨ ρ.2.2.1 j51 ≤ x1.toNatClampNeg) then
        ao_let (ao_u M50 j51 x1.toNatClampNeg (M50 j52 v22.toNatClampNeg)) fun M57 =>
        some ((0 : Int32), M57, ρ)
        else none
        else none
        else none
        else none
        else none
        else none
        else none
        else none
        else none
        else none
        else none
        else none
        else none
        else none
        else none
        else none
        else none
      else none
    else if pc = 139 then
      if ρ.2.1 r0 = 22 then
      (ρ.1 r0 34).bind fun j59 =>
      if ρ.2.1 j59 = 0 then
      if ¬ (x1 < 0 ∨ ρ.2.2.1 j59 ≤ x1.toNatClampNeg) then
      ao_let (ao_u M j59 x1.toNatClampNeg (0 : Int32)) fun M62 =>
      (ρ.1 r0 29).bind fun j63 =>
      if ρ.2.1 j63 = 0 then
      if ¬ (x1 < 0 ∨ ρ.2.2.1 j63 ≤ x1.toNatClampNeg) then
      ao_let (ao_u M62 j63 x1.toNatClampNeg (3 : Int32)) fun M66 =>
      some ((3 : Int32), M66, ρ)
      else none
      else none
      else none
      else none
      else none
    else none
def gX12_retry (n : Nat) (r0 : Nat) (x1 : Int32) (M : ao_M) (ρ : ao_H) : Option (Int32 × ao_S) := fX12_retry n 0 r0 x1 0 0 0 0 0 M ρ
set_option maxRecDepth 100000 in
set_option maxHeartbeats 4000000 in
theorem mX12_retry : ∀ n : Nat, (∀ (r0 : Nat) (x1 : Int32) (M : ao_M) (ρ : ao_H) (y : Int32 × ao_S), fX12_retry n 0 r0 x1 0 0 0 0 0 M ρ = some y → ao_le ρ y.2.2) ∧ (∀ (r0 : Nat) (x1 : Int32) (x2 : Int32) (M : ao_M) (ρ : ao_H) (y : Int32 × ao_S), fX12_retry n 9 r0 x1 x2 0 0 0 0 M ρ = some y → ao_le ρ y.2.2) ∧ (∀ (r0 : Nat) (x1 : Int32) (x2 : Int32) (M : ao_M) (ρ : ao_H) (y : Int32 × ao_S), fX12_retry n 41 r0 x1 x2 0 0 0 0 M ρ = some y → ao_le ρ y.2.2) ∧ (∀ (r0 : Nat) (x1 : Int32) (x2 : Int32) (M : ao_M) (ρ : ao_H) (y : Int32 × ao_S), fX12_retry n 47 r0 x1 x2 0 0 0 0 M ρ = some y → ao_le ρ y.2.2) ∧ (∀ (r0 : Nat) (x1 : Int32) (x2 : Int32) (s0 : Int32) (s1 : Int32) (q2 : Nat) (M : ao_M) (ρ : ao_H) (y : Int32 × ao_S), fX12_retry n 58 r0 x1 x2 0 s0 s1 q2 M ρ = some y → ao_le ρ y.2.2) ∧ (∀ (r0 : Nat) (x1 : Int32) (x2 : Int32) (x3 : Int32) (M : ao_M) (ρ : ao_H) (y : Int32 × ao_S), fX12_retry n 139 r0 x1 x2 x3 0 0 0 M ρ = some y → ao_le ρ y.2.2) := by
  intro n
  induction n with
  | zero => exact ⟨fun _ _ _ _ _ h => ao_no h, fun _ _ _ _ _ _ h => ao_no h, fun _ _ _ _ _ _ h => ao_no h, fun _ _ _ _ _ _ h => ao_no h, fun _ _ _ _ _ _ _ _ _ h => ao_no h, fun _ _ _ _ _ _ _ h => ao_no h⟩
  | succ n ih =>
    refine ⟨?_, ?_, ?_, ?_, ?_, ?_⟩
    · intro r0 x1 M ρ y h
      replace h := ao_ifT h rfl
      obtain ⟨-, h⟩ := ao_some h
      obtain ⟨j2, hj2, h⟩ := ao_bind h
      obtain ⟨-, h⟩ := ao_some h
      obtain ⟨-, h⟩ := ao_some h
      replace h := ao_letD h rfl
      generalize ((M j2 x1.toNatClampNeg) - (1 : Int32)) = v5 at h
      exact ih.2.1 r0 x1 v5 M ρ _ h
    · intro r0 x1 x2 M ρ y h
      replace h := ao_ifF h (by decide)
      replace h := ao_ifT h rfl
      rcases ao_ifC h with h | h
      · exact ih.2.2.2.1 r0 x1 x2 M ρ _ h
      · obtain ⟨-, h⟩ := ao_some h
        obtain ⟨j8, hj8, h⟩ := ao_bind h
        obtain ⟨p9, hp9, h⟩ := ao_bind h
        obtain ⟨-, h⟩ := ao_some h
        obtain ⟨-, h⟩ := ao_some h
        rcases ao_ifC h with h | h
        · exact ih.2.2.1 r0 x1 x2 p9.2 ρ _ h
        · obtain ⟨j13, hj13, h⟩ := ao_bind h
          obtain ⟨p14, hp14, h⟩ := ao_bind h
          obtain ⟨-, h⟩ := ao_some h
          obtain ⟨-, h⟩ := ao_some h
          rcases ao_ifC h with h | h
          · exact ih.2.2.2.1 r0 x1 x2 p14.2 ρ _ h
          · exact ih.2.2.1 r0 x1 x2 p14.2 ρ _ h
    · intro r0 x1 x2 M ρ y h
      replace h := ao_ifF h (by decide)
      replace h := ao_ifF h (by decide)
      replace h := ao_ifT h rfl
      replace h := ao_letD h rfl
      generalize (x2 + (-1 : Int32)) = v18 at h
      exact ih.2.1 r0 x1 v18 M ρ _ h
    · intro r0 x1 x2 M ρ y h
      replace h := ao_ifF h (by decide)
      replace h := ao_ifF h (by decide)
      replace h := ao_ifF h (by decide)
      replace h := ao_ifT h rfl
      rcases ao_ifC h with h | h
      · exact ih.2.2.2.2.1 r0 x1 x2 x2 x1 r0 M ρ _ h
      · exact ih.2.2.2.2.1 r0 x1 x2 (0 : Int32) x1 r0 M ρ _ h
    · intro r0 x1 x2 s0 s1 q2 M ρ y h
      replace h := ao_ifF h (by decide)
      replace h := ao_ifF h (by decide)
      replace h := ao_ifF h (by decide)
      replace h := ao_ifF h (by decide)
      replace h := ao_ifT h rfl
      obtain ⟨-, h⟩ := ao_some h
      obtain ⟨p21, hp21, h⟩ := ao_bind h
      replace h := ao_letD h rfl
      generalize p21.1 = v22 at h
      rcases ao_ifC h with h | h
      · obtain ⟨-, h⟩ := ao_some h
        obtain ⟨p25, hp25, h⟩ := ao_bind h
        obtain ⟨p26, hp26, h⟩ := ao_bind h
        exact ao_le_tr (me_X12_free n r0 x1 p25 ρ hp26) (ih.2.2.2.2.2 r0 x1 x2 v22 p26.1 p26.2 _ h)
      · obtain ⟨-, h⟩ := ao_some h
        obtain ⟨p28, hp28, h⟩ := ao_bind h
        obtain ⟨j29, hj29, h⟩ := ao_bind h
        obtain ⟨-, h⟩ := ao_some h
        obtain ⟨-, h⟩ := ao_some h
        replace h := ao_letD h rfl
        generalize (ao_u p28 j29 x1.toNatClampNeg (x2 + (1 : Int32))) = M32 at h
        obtain ⟨j33, hj33, h⟩ := ao_bind h
        obtain ⟨-, h⟩ := ao_some h
        obtain ⟨-, h⟩ := ao_some h
        replace h := ao_letD h rfl
        generalize (ao_u M32 j33 v22.toNatClampNeg (1 : Int32)) = M36 at h
        obtain ⟨j37, hj37, h⟩ := ao_bind h
        obtain ⟨j38, hj38, h⟩ := ao_bind h
        obtain ⟨-, h⟩ := ao_some h
        obtain ⟨-, h⟩ := ao_some h
        obtain ⟨-, h⟩ := ao_some h
        obtain ⟨-, h⟩ := ao_some h
        replace h := ao_letD h rfl
        generalize (ao_u M36 j37 x1.toNatClampNeg (M36 j38 v22.toNatClampNeg)) = M43 at h
        obtain ⟨j44, hj44, h⟩ := ao_bind h
        obtain ⟨j45, hj45, h⟩ := ao_bind h
        obtain ⟨-, h⟩ := ao_some h
        obtain ⟨-, h⟩ := ao_some h
        obtain ⟨-, h⟩ := ao_some h
        obtain ⟨-, h⟩ := ao_some h
        replace h := ao_letD h rfl
        generalize (ao_u M43 j44 x1.toNatClampNeg (M43 j45 v22.toNatClampNeg)) = M50 at h
        obtain ⟨j51, hj51, h⟩ := ao_bind h
        obtain ⟨j52, hj52, h⟩ := ao_bind h
        obtain ⟨-, h⟩ := ao_some h
        obtain ⟨-, h⟩ := ao_some h
        obtain ⟨-, h⟩ := ao_some h
        obtain ⟨-, h⟩ := ao_some h
        replace h := ao_letD h rfl
        generalize (ao_u M50 j51 x1.toNatClampNeg (M50 j52 v22.toNatClampNeg)) = M57 at h
        cases h
        exact ao_le_rf _
    · intro r0 x1 x2 x3 M ρ y h
      replace h := ao_ifF h (by decide)
      replace h := ao_ifF h (by decide)
      replace h := ao_ifF h (by decide)
      replace h := ao_ifF h (by decide)
      replace h := ao_ifF h (by decide)
      replace h := ao_ifT h rfl
      obtain ⟨-, h⟩ := ao_some h
      obtain ⟨j59, hj59, h⟩ := ao_bind h
      obtain ⟨-, h⟩ := ao_some h
      obtain ⟨-, h⟩ := ao_some h
      replace h := ao_letD h rfl
      generalize (ao_u M j59 x1.toNatClampNeg (0 : Int32)) = M62 at h
      obtain ⟨j63, hj63, h⟩ := ao_bind h
      obtain ⟨-, h⟩ := ao_some h
      obtain ⟨-, h⟩ := ao_some h
      replace h := ao_letD h rfl
      generalize (ao_u M62 j63 x1.toNatClampNeg (3 : Int32)) = M66 at h
      cases h
      exact ao_le_rf _
set_option maxRecDepth 100000 in
set_option maxHeartbeats 4000000 in
theorem wX12_retry {Γ : ao_C} (d : Nat) (hd : 3 ≤ d) (MC MS : Nat) : ∀ n : Nat, (∀ (r0 : Nat) (x1 : Int32) (M : ao_M) (ρ : ao_H) (y : Int32 × ao_S), fX12_retry n 0 r0 x1 0 0 0 0 0 M ρ = some y → ao_W Γ uX12_retry (ao_rm d MC MS) (ao_Q Γ (ao_QI y) MC MS) (ao_dc ρ y.2.2) (ao_ds ρ y.2.2) 0 [some (.ref (Γ.2.2.2 + r0)), some (.int x1), none, none] [] (M, ρ)) ∧ (∀ (r0 : Nat) (x1 : Int32) (x2 : Int32) (M : ao_M) (ρ : ao_H) (y : Int32 × ao_S), fX12_retry n 9 r0 x1 x2 0 0 0 0 M ρ = some y → ao_W Γ uX12_retry (ao_rm d MC MS) (ao_Q Γ (ao_QI y) MC MS) (ao_dc ρ y.2.2) (ao_ds ρ y.2.2) 9 [some (.ref (Γ.2.2.2 + r0)), some (.int x1), some (.int x2), none] [] (M, ρ)) ∧ (∀ (r0 : Nat) (x1 : Int32) (x2 : Int32) (M : ao_M) (ρ : ao_H) (y : Int32 × ao_S), fX12_retry n 41 r0 x1 x2 0 0 0 0 M ρ = some y → ao_W Γ uX12_retry (ao_rm d MC MS) (ao_Q Γ (ao_QI y) MC MS) (ao_dc ρ y.2.2) (ao_ds ρ y.2.2) 41 [some (.ref (Γ.2.2.2 + r0)), some (.int x1), some (.int x2), none] [] (M, ρ)) ∧ (∀ (r0 : Nat) (x1 : Int32) (x2 : Int32) (M : ao_M) (ρ : ao_H) (y : Int32 × ao_S), fX12_retry n 47 r0 x1 x2 0 0 0 0 M ρ = some y → ao_W Γ uX12_retry (ao_rm d MC MS) (ao_Q Γ (ao_QI y) MC MS) (ao_dc ρ y.2.2) (ao_ds ρ y.2.2) 47 [some (.ref (Γ.2.2.2 + r0)), some (.int x1), some (.int x2), none] [] (M, ρ)) ∧ (∀ (r0 : Nat) (x1 : Int32) (x2 : Int32) (s0 : Int32) (s1 : Int32) (q2 : Nat) (M : ao_M) (ρ : ao_H) (y : Int32 × ao_S), fX12_retry n 58 r0 x1 x2 0 s0 s1 q2 M ρ = some y → ao_W Γ uX12_retry (ao_rm d MC MS) (ao_Q Γ (ao_QI y) MC MS) (ao_dc ρ y.2.2) (ao_ds ρ y.2.2) 58 [some (.ref (Γ.2.2.2 + r0)), some (.int x1), some (.int x2), none] [.int s0, .int s1, .ref (Γ.2.2.2 + q2)] (M, ρ)) ∧ (∀ (r0 : Nat) (x1 : Int32) (x2 : Int32) (x3 : Int32) (M : ao_M) (ρ : ao_H) (y : Int32 × ao_S), fX12_retry n 139 r0 x1 x2 x3 0 0 0 M ρ = some y → ao_W Γ uX12_retry (ao_rm d MC MS) (ao_Q Γ (ao_QI y) MC MS) (ao_dc ρ y.2.2) (ao_ds ρ y.2.2) 139 [some (.ref (Γ.2.2.2 + r0)), some (.int x1), some (.int x2), some (.int x3)] [] (M, ρ)) := by
  intro n
  induction n with
  | zero => exact ⟨fun _ _ _ _ _ h => ao_no h, fun _ _ _ _ _ _ h => ao_no h, fun _ _ _ _ _ _ h => ao_no h, fun _ _ _ _ _ _ h => ao_no h, fun _ _ _ _ _ _ _ _ _ h => ao_no h, fun _ _ _ _ _ _ _ h => ao_no h⟩
  | succ n ih =>
    refine ⟨?_, ?_, ?_, ?_, ?_, ?_⟩
    · intro r0 x1 M ρ y h
      replace h := ao_ifT h rfl
      refine ao_aload_n 0 dX12_retry_0 rfl rfl ?_
      obtain ⟨hk1, h⟩ := ao_some h
      obtain ⟨j2, hj2, h⟩ := ao_bind h
      refine an_getR r0 12 34 (q := (RX12, TX12, 83)) dX12_retry_1 rfl hk1 (Nat.le_of_ble_eq_true rfl) rfl lf_X12_202 hj2 ?_
      refine ao_iload_n 1 dX12_retry_4 rfl rfl ?_
      obtain ⟨hk3, h⟩ := ao_some h
      obtain ⟨hb4, h⟩ := ao_some h
      refine an_iaload j2 dX12_retry_5 hk3 hb4 ?_
      refine ao_iconst (v := 1) dX12_retry_6 (by decide) ?_
      refine ao_isub dX12_retry_7 ?_
      refine an_topi (fun v5 hv5 => ?_)
      replace h := ao_letD h hv5
      refine ao_istore_n 2 (lo' := [some (.ref (Γ.2.2.2 + r0)), some (.int x1), some (.int v5), none]) dX12_retry_8 rfl (Nat.le_of_ble_eq_true rfl) rfl ?_
      exact ih.2.1 r0 x1 v5 M ρ _ h
    · intro r0 x1 x2 M ρ y h
      replace h := ao_ifF h (by decide)
      replace h := ao_ifT h rfl
      refine ao_iload_n 2 dX12_retry_9 rfl rfl ?_
      refine ao_if_lt 47 dX12_retry_10 (by decide) (fun c6 => ?_) (fun c6 => ?_)
      · replace h := ao_ifT h c6
        exact ih.2.2.2.1 r0 x1 x2 M ρ _ h
      · replace h := ao_ifF h c6
        refine ao_aload_n 0 dX12_retry_13 rfl rfl ?_
        obtain ⟨hk7, h⟩ := ao_some h
        obtain ⟨j8, hj8, h⟩ := ao_bind h
        refine an_getR r0 12 49 (q := (RX12, TX12, 83)) dX12_retry_14 rfl hk7 (Nat.le_of_ble_eq_true rfl) rfl lf_X12_247 hj8 ?_
        refine ao_aload_n 0 dX12_retry_17 rfl rfl ?_
        refine ao_iload_n 1 dX12_retry_18 rfl rfl ?_
        refine ao_iload_n 2 dX12_retry_19 rfl rfl ?_
        obtain ⟨p9, hp9, h⟩ := ao_bind h
        refine an_callVi r0 12 (q := (RX12, TX12, 83)) [.int x1, .int x2] (aX12_level (d - 1) (by omega) r0 x1 x2 M ρ hp9) dX12_retry_20 lc_X12_360 li_X12_level ls_X12_level rfl hk7 rfl rfl (Nat.le_of_ble_eq_true rfl) (ao_hR (by omega) (by decide)) ?_
        obtain ⟨hk10, h⟩ := ao_some h
        obtain ⟨hb11, h⟩ := ao_some h
        refine an_iaload j8 dX12_retry_23 hk10 hb11 ?_
        refine ao_if_lt 41 dX12_retry_24 (by decide) (fun c12 => ?_) (fun c12 => ?_)
        · replace h := ao_ifT h c12
          exact ih.2.2.1 r0 x1 x2 p9.2 ρ _ h
        · replace h := ao_ifF h c12
          refine ao_aload_n 0 dX12_retry_27 rfl rfl ?_
          obtain ⟨j13, hj13, h⟩ := ao_bind h
          refine an_getR r0 12 54 (q := (RX12, TX12, 83)) dX12_retry_28 rfl hk7 (Nat.le_of_ble_eq_true rfl) rfl lf_X12_262 hj13 ?_
          refine ao_aload_n 0 dX12_retry_31 rfl rfl ?_
          refine ao_iload_n 1 dX12_retry_32 rfl rfl ?_
          refine ao_iload_n 2 dX12_retry_33 rfl rfl ?_
          obtain ⟨p14, hp14, h⟩ := ao_bind h
          refine an_callVi r0 12 (q := (RX12, TX12, 83)) [.int x1, .int x2] (aX12_level (d - 1) (by omega) r0 x1 x2 p9.2 ρ hp14) dX12_retry_34 lc_X12_360 li_X12_level ls_X12_level rfl hk7 rfl rfl (Nat.le_of_ble_eq_true rfl) (ao_hR (by omega) (by decide)) ?_
          obtain ⟨hk15, h⟩ := ao_some h
          obtain ⟨hb16, h⟩ := ao_some h
          refine an_zaload j13 dX12_retry_37 hk15 hb16 ?_
          refine ao_if_eq 47 dX12_retry_38 (by decide) (fun c17 => ?_) (fun c17 => ?_)
          · replace h := ao_ifT h c17
            exact ih.2.2.2.1 r0 x1 x2 p14.2 ρ _ h
          · replace h := ao_ifF h c17
            exact ih.2.2.1 r0 x1 x2 p14.2 ρ _ h
    · intro r0 x1 x2 M ρ y h
      replace h := ao_ifF h (by decide)
      replace h := ao_ifF h (by decide)
      replace h := ao_ifT h rfl
      obtain ⟨v18, hv18⟩ : ∃ z : Int32, z = x2 + (-1 : Int32) := ⟨_, rfl⟩
      replace h := ao_letD h hv18
      refine ao_iinc 2 (v := v18) (lo' := [some (.ref (Γ.2.2.2 + r0)), some (.int x1), some (.int v18), none]) dX12_retry_41 rfl (by rw [hv18]; rfl) (Nat.le_of_ble_eq_true rfl) rfl ?_
      refine ao_goto 9 dX12_retry_44 (by decide) ?_
      exact ih.2.1 r0 x1 v18 M ρ _ h
    · intro r0 x1 x2 M ρ y h
      replace h := ao_ifF h (by decide)
      replace h := ao_ifF h (by decide)
      replace h := ao_ifF h (by decide)
      replace h := ao_ifT h rfl
      refine ao_aload_n 0 dX12_retry_47 rfl rfl ?_
      refine ao_iload_n 1 dX12_retry_48 rfl rfl ?_
      refine ao_iload_n 2 dX12_retry_49 rfl rfl ?_
      refine ao_if_ge 57 dX12_retry_50 (by decide) (fun c19 => ?_) (fun c19 => ?_)
      · replace h := ao_ifT h c19
        refine ao_iload_n 2 dX12_retry_57 rfl rfl ?_
        exact ih.2.2.2.2.1 r0 x1 x2 x2 x1 r0 M ρ _ h
      · replace h := ao_ifF h c19
        refine ao_iconst (v := 0) dX12_retry_53 (by decide) ?_
        refine ao_goto 58 dX12_retry_54 (by decide) ?_
        exact ih.2.2.2.2.1 r0 x1 x2 (0 : Int32) x1 r0 M ρ _ h
    · intro r0 x1 x2 s0 s1 q2 M ρ y h
      replace h := ao_ifF h (by decide)
      replace h := ao_ifF h (by decide)
      replace h := ao_ifF h (by decide)
      replace h := ao_ifF h (by decide)
      replace h := ao_ifT h rfl
      obtain ⟨hk20, h⟩ := ao_some h
      obtain ⟨p21, hp21, h⟩ := ao_bind h
      refine an_callVi q2 12 (q := (RX12, TX12, 83)) [.int s1, .int s0] (aX12_level (d - 1) (by omega) q2 s1 s0 M ρ hp21) dX12_retry_58 lc_X12_360 li_X12_level ls_X12_level rfl hk20 rfl rfl (Nat.le_of_ble_eq_true rfl) (ao_hR (by omega) (by decide)) ?_
      refine an_topi (fun v22 hv22 => ?_)
      replace h := ao_letD h hv22
      refine ao_istore_n 3 (lo' := [some (.ref (Γ.2.2.2 + r0)), some (.int x1), some (.int x2), some (.int v22)]) dX12_retry_61 rfl (Nat.le_of_ble_eq_true rfl) rfl ?_
      refine ao_iload_n 2 dX12_retry_62 rfl rfl ?_
      refine ao_if_lt 127 dX12_retry_63 (by decide) (fun c23 => ?_) (fun c23 => ?_)
      · replace h := ao_ifT h c23
        refine ao_aload_n 0 dX12_retry_127 rfl rfl ?_
        refine ao_iload_n 1 dX12_retry_128 rfl rfl ?_
        refine ao_iconst (v := 0) dX12_retry_129 (by decide) ?_
        refine ao_iconst (v := 1) dX12_retry_130 (by decide) ?_
        obtain ⟨hk24, h⟩ := ao_some h
        obtain ⟨p25, hp25, h⟩ := ao_bind h
        refine an_callVv r0 12 (q := (RX12, TX12, 83)) [.int x1, .int (0 : Int32), .int (1 : Int32)] (aX12_takeBackTo (d - 1) (by omega) _ r0 x1 (0 : Int32) (1 : Int32) p21.2 ρ hp25) dX12_retry_131 lc_X12_382 li_X12_takeBackTo ls_X12_takeBackTo rfl hk24 rfl rfl (Nat.le_of_ble_eq_true rfl) (ao_hR (by omega) (by decide)) ?_
        refine ao_aload_n 0 dX12_retry_134 rfl rfl ?_
        refine ao_iload_n 1 dX12_retry_135 rfl rfl ?_
        obtain ⟨p26, hp26, h⟩ := ao_bind h
        refine ba_callVv r0 12 (q := (RX12, TX12, 83)) [.int x1] (aX12_free (d - 1) (by omega) n r0 x1 p25 ρ hp26) dX12_retry_136 lc_X12_386 li_X12_free ls_X12_free rfl hk24 rfl rfl (Nat.le_of_ble_eq_true rfl) (ao_hR (by omega) (by decide)) (ao_leC (me_X12_free n r0 x1 p25 ρ hp26) ((mX12_retry n).2.2.2.2.2 r0 x1 x2 v22 p26.1 p26.2 _ h)) (ao_leS (me_X12_free n r0 x1 p25 ρ hp26) ((mX12_retry n).2.2.2.2.2 r0 x1 x2 v22 p26.1 p26.2 _ h)) ?_
        exact ih.2.2.2.2.2 r0 x1 x2 v22 p26.1 p26.2 _ h
      · replace h := ao_ifF h c23
        refine ao_aload_n 0 dX12_retry_66 rfl rfl ?_
        refine ao_iload_n 1 dX12_retry_67 rfl rfl ?_
        refine ao_iload_n 2 dX12_retry_68 rfl rfl ?_
        refine ao_iconst (v := 1) dX12_retry_69 (by decide) ?_
        obtain ⟨hk27, h⟩ := ao_some h
        obtain ⟨p28, hp28, h⟩ := ao_bind h
        refine an_callVv r0 12 (q := (RX12, TX12, 83)) [.int x1, .int x2, .int (1 : Int32)] (aX12_takeBackTo (d - 1) (by omega) _ r0 x1 x2 (1 : Int32) p21.2 ρ hp28) dX12_retry_70 lc_X12_382 li_X12_takeBackTo ls_X12_takeBackTo rfl hk27 rfl rfl (Nat.le_of_ble_eq_true rfl) (ao_hR (by omega) (by decide)) ?_
        refine ao_aload_n 0 dX12_retry_73 rfl rfl ?_
        obtain ⟨j29, hj29, h⟩ := ao_bind h
        refine an_getR r0 12 34 (q := (RX12, TX12, 83)) dX12_retry_74 rfl hk27 (Nat.le_of_ble_eq_true rfl) rfl lf_X12_202 hj29 ?_
        refine ao_iload_n 1 dX12_retry_77 rfl rfl ?_
        refine ao_iload_n 2 dX12_retry_78 rfl rfl ?_
        refine ao_iconst (v := 1) dX12_retry_79 (by decide) ?_
        refine ao_iadd dX12_retry_80 ?_
        obtain ⟨hk30, h⟩ := ao_some h
        obtain ⟨hb31, h⟩ := ao_some h
        refine an_iastore j29 dX12_retry_81 hk30 hb31 (fun M32 hM32 => ?_)
        replace h := ao_letD h hM32
        refine ao_aload_n 0 dX12_retry_82 rfl rfl ?_
        obtain ⟨j33, hj33, h⟩ := ao_bind h
        refine an_getR r0 12 54 (q := (RX12, TX12, 83)) dX12_retry_83 rfl hk27 (Nat.le_of_ble_eq_true rfl) rfl lf_X12_262 hj33 ?_
        refine ao_iload_n 3 dX12_retry_86 rfl rfl ?_
        refine ao_iconst (v := 1) dX12_retry_87 (by decide) ?_
        obtain ⟨hk34, h⟩ := ao_some h
        obtain ⟨hb35, h⟩ := ao_some h
        refine an_zastore j33 dX12_retry_88 hk34 hb35 rfl (fun M36 hM36 => ?_)
        replace h := ao_letD h hM36
        refine ao_aload_n 0 dX12_retry_89 rfl rfl ?_
        obtain ⟨j37, hj37, h⟩ := ao_bind h
        refine an_getR r0 12 30 (q := (RX12, TX12, 83)) dX12_retry_90 rfl hk27 (Nat.le_of_ble_eq_true rfl) rfl lf_X12_190 hj37 ?_
        refine ao_iload_n 1 dX12_retry_93 rfl rfl ?_
        refine ao_aload_n 0 dX12_retry_94 rfl rfl ?_
        obtain ⟨j38, hj38, h⟩ := ao_bind h
        refine an_getR r0 12 49 (q := (RX12, TX12, 83)) dX12_retry_95 rfl hk27 (Nat.le_of_ble_eq_true rfl) rfl lf_X12_247 hj38 ?_
        refine ao_iload_n 3 dX12_retry_98 rfl rfl ?_
        obtain ⟨hk39, h⟩ := ao_some h
        obtain ⟨hb40, h⟩ := ao_some h
        refine an_iaload j38 dX12_retry_99 hk39 hb40 ?_
        obtain ⟨hk41, h⟩ := ao_some h
        obtain ⟨hb42, h⟩ := ao_some h
        refine an_iastore j37 dX12_retry_100 hk41 hb42 (fun M43 hM43 => ?_)
        replace h := ao_letD h hM43
        refine ao_aload_n 0 dX12_retry_101 rfl rfl ?_
        obtain ⟨j44, hj44, h⟩ := ao_bind h
        refine an_getR r0 12 35 (q := (RX12, TX12, 83)) dX12_retry_102 rfl hk27 (Nat.le_of_ble_eq_true rfl) rfl lf_X12_205 hj44 ?_
        refine ao_iload_n 1 dX12_retry_105 rfl rfl ?_
        refine ao_aload_n 0 dX12_retry_106 rfl rfl ?_
        obtain ⟨j45, hj45, h⟩ := ao_bind h
        refine an_getR r0 12 51 (q := (RX12, TX12, 83)) dX12_retry_107 rfl hk27 (Nat.le_of_ble_eq_true rfl) rfl lf_X12_253 hj45 ?_
        refine ao_iload_n 3 dX12_retry_110 rfl rfl ?_
        obtain ⟨hk46, h⟩ := ao_some h
        obtain ⟨hb47, h⟩ := ao_some h
        refine an_iaload j45 dX12_retry_111 hk46 hb47 ?_
        obtain ⟨hk48, h⟩ := ao_some h
        obtain ⟨hb49, h⟩ := ao_some h
        refine an_iastore j44 dX12_retry_112 hk48 hb49 (fun M50 hM50 => ?_)
        replace h := ao_letD h hM50
        refine ao_aload_n 0 dX12_retry_113 rfl rfl ?_
        obtain ⟨j51, hj51, h⟩ := ao_bind h
        refine an_getR r0 12 36 (q := (RX12, TX12, 83)) dX12_retry_114 rfl hk27 (Nat.le_of_ble_eq_true rfl) rfl lf_X12_208 hj51 ?_
        refine ao_iload_n 1 dX12_retry_117 rfl rfl ?_
        refine ao_aload_n 0 dX12_retry_118 rfl rfl ?_
        obtain ⟨j52, hj52, h⟩ := ao_bind h
        refine an_getR r0 12 52 (q := (RX12, TX12, 83)) dX12_retry_119 rfl hk27 (Nat.le_of_ble_eq_true rfl) rfl lf_X12_256 hj52 ?_
        refine ao_iload_n 3 dX12_retry_122 rfl rfl ?_
        obtain ⟨hk53, h⟩ := ao_some h
        obtain ⟨hb54, h⟩ := ao_some h
        refine an_iaload j52 dX12_retry_123 hk53 hb54 ?_
        obtain ⟨hk55, h⟩ := ao_some h
        obtain ⟨hb56, h⟩ := ao_some h
        refine an_iastore j51 dX12_retry_124 hk55 hb56 (fun M57 hM57 => ?_)
        replace h := ao_letD h hM57
        refine ao_iconst (v := 0) dX12_retry_125 (by decide) ?_
        cases h
        exact ao_ireturn dX12_retry_126 rfl rfl ⟨rfl, rfl⟩
    · intro r0 x1 x2 x3 M ρ y h
      replace h := ao_ifF h (by decide)
      replace h := ao_ifF h (by decide)
      replace h := ao_ifF h (by decide)
      replace h := ao_ifF h (by decide)
      replace h := ao_ifF h (by decide)
      replace h := ao_ifT h rfl
      refine ao_aload_n 0 dX12_retry_139 rfl rfl ?_
      obtain ⟨hk58, h⟩ := ao_some h
      obtain ⟨j59, hj59, h⟩ := ao_bind h
      refine an_getR r0 12 34 (q := (RX12, TX12, 83)) dX12_retry_140 rfl hk58 (Nat.le_of_ble_eq_true rfl) rfl lf_X12_202 hj59 ?_
      refine ao_iload_n 1 dX12_retry_143 rfl rfl ?_
      refine ao_iconst (v := 0) dX12_retry_144 (by decide) ?_
      obtain ⟨hk60, h⟩ := ao_some h
      obtain ⟨hb61, h⟩ := ao_some h
      refine an_iastore j59 dX12_retry_145 hk60 hb61 (fun M62 hM62 => ?_)
      replace h := ao_letD h hM62
      refine ao_aload_n 0 dX12_retry_146 rfl rfl ?_
      obtain ⟨j63, hj63, h⟩ := ao_bind h
      refine an_getR r0 12 29 (q := (RX12, TX12, 83)) dX12_retry_147 rfl hk58 (Nat.le_of_ble_eq_true rfl) rfl lf_X12_187 hj63 ?_
      refine ao_iload_n 1 dX12_retry_150 rfl rfl ?_
      refine ao_iconst (v := 3) dX12_retry_151 (by decide) ?_
      obtain ⟨hk64, h⟩ := ao_some h
      obtain ⟨hb65, h⟩ := ao_some h
      refine an_iastore j63 dX12_retry_152 hk64 hb65 (fun M66 hM66 => ?_)
      replace h := ao_letD h hM66
      refine ao_iconst (v := 3) dX12_retry_153 (by decide) ?_
      cases h
      exact ao_ireturn dX12_retry_154 rfl rfl ⟨rfl, rfl⟩
theorem me_X12_retry (n : Nat) (r0 : Nat) (x1 : Int32) (M : ao_M) (ρ : ao_H) {y : Int32 × ao_S} (h : gX12_retry n r0 x1 M ρ = some y) : ao_le ρ y.2.2 := (mX12_retry n).1 r0 x1 M ρ y h
set_option maxRecDepth 100000 in
set_option maxHeartbeats 4000000 in
theorem aX12_retry {Γ : ao_C} (d : Nat) (hd : 3 ≤ d) (n : Nat) (r0 : Nat) (x1 : Int32) (M : ao_M) (ρ : ao_H) {y : Int32 × ao_S} (h : gX12_retry n r0 x1 M ρ = some y) : ao_A Γ uX12_retry d (ao_dc ρ y.2.2) (ao_ds ρ y.2.2) [.ref (Γ.2.2.2 + r0), .int x1] (M, ρ) (ao_QI y) := by
  refine ao_of (by decide) (ao_cat1 (Nat.le_of_ble_eq_true rfl)) (Nat.le_of_ble_eq_true rfl) ?_
  show ao_W Γ uX12_retry (ao_rm d (ao_dc ρ y.2.2) (ao_ds ρ y.2.2)) (ao_Q Γ (ao_QI y) (ao_dc ρ y.2.2) (ao_ds ρ y.2.2)) (ao_dc ρ y.2.2) (ao_ds ρ y.2.2) 0 [some (.ref (Γ.2.2.2 + r0)), some (.int x1), none, none] [] (M, ρ)
  exact (wX12_retry d hd _ _ n).1 r0 x1 M ρ y h

abbrev uX12_quit : ao_Mi := (yX12_quit, cX12_quit, 4, (some .int), [])
def fX12_quit : Nat → Nat → Nat → Int32 → Int32 → Int32 →  ao_M → ao_H → Option (Int32 × ao_S)
  | 0, _, _, _, _, _, _, _ => none
  | n + 1, pc, r0, x1, x2, x3, M, ρ =>
    if pc = 0 then
      if ρ.2.1 r0 = 22 then
      (ρ.1 r0 34).bind fun j2 =>
      if ρ.2.1 j2 = 0 then
      if ¬ (x1 < 0 ∨ ρ.2.2.1 j2 ≤ x1.toNatClampNeg) then
      ao_let ((M j2 x1.toNatClampNeg) - (1 : Int32)) fun v5 =>
      (gX12_level r0 x1 v5 M ρ).bind fun p6 =>
      ao_let p6.1 fun v7 =>
      (gX12_takeBackTo n r0 x1 v5 (1 : Int32) p6.2 ρ).bind fun p8 =>
      (ρ.1 r0 30).bind fun j9 =>
      (ρ.1 r0 50).bind fun j10 =>
      if ρ.2.1 j10 = 0 then
      if ¬ (v7 < 0 ∨ ρ.2.2.1 j10 ≤ v7.toNatClampNeg) then
      if ρ.2.1 j9 = 0 then
      if ¬ (x1 < 0 ∨ ρ.2.2.1 j9 ≤ x1.toNatClampNeg) then
      ao_let (ao_u p8 j9 x1.toNatClampNeg (p8 j10 v7.toNatClampNeg)) fun M15 =>
      (ρ.1 r0 35).bind fun j16 =>
      (ρ.1 r0 51).bind fun j17 =>
      if ρ.2.1 j17 = 0 then
      if ¬ (v7 < 0 ∨ ρ.2.2.1 j17 ≤ v7.toNatClampNeg) then
      if ρ.2.1 j16 = 0 then
      if ¬ (x1 < 0 ∨ ρ.2.2.1 j16 ≤ x1.toNatClampNeg) then
      ao_let (ao_u M15 j16 x1.toNatClampNeg ((M15 j17 v7.toNatClampNeg) - (1 : Int32))) fun M22 =>
      (ρ.1 r0 36).bind fun j23 =>
      (ρ.1 r0 52).bind fun j24 =>
      if ρ.2.1 j24 = 0 then
      if ¬ (v7 < 0 ∨ ρ.2.2.1 j24 ≤ v7.toNatClampNeg) then
      if ρ.2.1 j23 = 0 then
      if ¬ (x1 < 0 ∨ ρ.2.2.1 j23 ≤ x1.toNatClampNeg) then
      ao_let (ao_u M22 j23 x1.toNatClampNeg (M22 j24 v7.toNatClampNeg)) fun M29 =>
      ao_let (ao_u M29 j2 x1.toNatClampNeg v5) fun M30 =>
      if v5 = 0 then
        (gX12_leave n r0 x1 M30 ρ).bind fun p32 =>
        fX12_quit n 77 r0 x1 v5 v7 p32.1 p32.2
      else
        fX12_quit n 77 r0 x1 v5 v7 M30 ρ
      else none
      else none
      else none
      else none
      else none
      else none
      else none
      else none
      else none
      else none
      else none
      else none
      else none
      else none
      else none
    else if pc = 77 then
      some ((0 : Int32), M, ρ)
    else none
def gX12_quit (n : Nat) (r0 : Nat) (x1 : Int32) (M : ao_M) (ρ : ao_H) : Option (Int32 × ao_S) := fX12_quit n 0 r0 x1 0 0 M ρ
set_option maxRecDepth 100000 in
set_option maxHeartbeats 4000000 in
theorem mX12_quit : ∀ n : Nat, (∀ (r0 : Nat) (x1 : Int32) (M : ao_M) (ρ : ao_H) (y : Int32 × ao_S), fX12_quit n 0 r0 x1 0 0 M ρ = some y → ao_le ρ y.2.2) ∧ (∀ (r0 : Nat) (x1 : Int32) (x2 : Int32) (x3 : Int32) (M : ao_M) (ρ : ao_H) (y : Int32 × ao_S), fX12_quit n 77 r0 x1 x2 x3 M ρ = some y → ao_le ρ y.2.2) := by
  intro n
  induction n with
  | zero => exact ⟨fun _ _ _ _ _ h => ao_no h, fun _ _ _ _ _ _ _ h => ao_no h⟩
  | succ n ih =>
    refine ⟨?_, ?_⟩
    · intro r0 x1 M ρ y h
      replace h := ao_ifT h rfl
      obtain ⟨-, h⟩ := ao_some h
      obtain ⟨j2, hj2, h⟩ := ao_bind h
      obtain ⟨-, h⟩ := ao_some h
      obtain ⟨-, h⟩ := ao_some h
      replace h := ao_letD h rfl
      generalize ((M j2 x1.toNatClampNeg) - (1 : Int32)) = v5 at h
      obtain ⟨p6, hp6, h⟩ := ao_bind h
      replace h := ao_letD h rfl
      generalize p6.1 = v7 at h
      obtain ⟨p8, hp8, h⟩ := ao_bind h
      obtain ⟨j9, hj9, h⟩ := ao_bind h
      obtain ⟨j10, hj10, h⟩ := ao_bind h
      obtain ⟨-, h⟩ := ao_some h
      obtain ⟨-, h⟩ := ao_some h
      obtain ⟨-, h⟩ := ao_some h
      obtain ⟨-, h⟩ := ao_some h
      replace h := ao_letD h rfl
      generalize (ao_u p8 j9 x1.toNatClampNeg (p8 j10 v7.toNatClampNeg)) = M15 at h
      obtain ⟨j16, hj16, h⟩ := ao_bind h
      obtain ⟨j17, hj17, h⟩ := ao_bind h
      obtain ⟨-, h⟩ := ao_some h
      obtain ⟨-, h⟩ := ao_some h
      obtain ⟨-, h⟩ := ao_some h
      obtain ⟨-, h⟩ := ao_some h
      replace h := ao_letD h rfl
      generalize (ao_u M15 j16 x1.toNatClampNeg ((M15 j17 v7.toNatClampNeg) - (1 : Int32))) = M22 at h
      obtain ⟨j23, hj23, h⟩ := ao_bind h
      obtain ⟨j24, hj24, h⟩ := ao_bind h
      obtain ⟨-, h⟩ := ao_some h
      obtain ⟨-, h⟩ := ao_some h
      obtain ⟨-, h⟩ := ao_some h
      obtain ⟨-, h⟩ := ao_some h
      replace h := ao_letD h rfl
      generalize (ao_u M22 j23 x1.toNatClampNeg (M22 j24 v7.toNatClampNeg)) = M29 at h
      replace h := ao_letD h rfl
      generalize (ao_u M29 j2 x1.toNatClampNeg v5) = M30 at h
      rcases ao_ifC h with h | h
      · obtain ⟨p32, hp32, h⟩ := ao_bind h
        exact ao_le_tr (me_X12_leave n r0 x1 M30 ρ hp32) (ih.2 r0 x1 v5 v7 p32.1 p32.2 _ h)
      · exact ih.2 r0 x1 v5 v7 M30 ρ _ h
    · intro r0 x1 x2 x3 M ρ y h
      replace h := ao_ifF h (by decide)
      replace h := ao_ifT h rfl
      cases h
      exact ao_le_rf _
set_option maxRecDepth 100000 in
set_option maxHeartbeats 4000000 in
theorem wX12_quit {Γ : ao_C} (d : Nat) (hd : 4 ≤ d) (MC MS : Nat) : ∀ n : Nat, (∀ (r0 : Nat) (x1 : Int32) (M : ao_M) (ρ : ao_H) (y : Int32 × ao_S), fX12_quit n 0 r0 x1 0 0 M ρ = some y → ao_W Γ uX12_quit (ao_rm d MC MS) (ao_Q Γ (ao_QI y) MC MS) (ao_dc ρ y.2.2) (ao_ds ρ y.2.2) 0 [some (.ref (Γ.2.2.2 + r0)), some (.int x1), none, none] [] (M, ρ)) ∧ (∀ (r0 : Nat) (x1 : Int32) (x2 : Int32) (x3 : Int32) (M : ao_M) (ρ : ao_H) (y : Int32 × ao_S), fX12_quit n 77 r0 x1 x2 x3 M ρ = some y → ao_W Γ uX12_quit (ao_rm d MC MS) (ao_Q Γ (ao_QI y) MC MS) (ao_dc ρ y.2.2) (ao_ds ρ y.2.2) 77 [some (.ref (Γ.2.2.2 + r0)), some (.int x1), some (.int x2), some (.int x3)] [] (M, ρ)) := by
  intro n
  induction n with
  | zero => exact ⟨fun _ _ _ _ _ h => ao_no h, fun _ _ _ _ _ _ _ h => ao_no h⟩
  | succ n ih =>
    refine ⟨?_, ?_⟩
    · intro r0 x1 M ρ y h
      replace h := ao_ifT h rfl
      refine ao_aload_n 0 dX12_quit_0 rfl rfl ?_
      obtain ⟨hk1, h⟩ := ao_some h
      obtain ⟨j2, hj2, h⟩ := ao_bind h
      refine an_getR r0 12 34 (q := (RX12, TX12, 83)) dX12_quit_1 rfl hk1 (Nat.le_of_ble_eq_true rfl) rfl lf_X12_202 hj2 ?_
      refine ao_iload_n 1 dX12_quit_4 rfl rfl ?_
      obtain ⟨hk3, h⟩ := ao_some h
      obtain ⟨hb4, h⟩ := ao_some h
      refine an_iaload j2 dX12_quit_5 hk3 hb4 ?_
      refine ao_iconst (v := 1) dX12_quit_6 (by decide) ?_
      refine ao_isub dX12_quit_7 ?_
      refine an_topi (fun v5 hv5 => ?_)
      replace h := ao_letD h hv5
      refine ao_istore_n 2 (lo' := [some (.ref (Γ.2.2.2 + r0)), some (.int x1), some (.int v5), none]) dX12_quit_8 rfl (Nat.le_of_ble_eq_true rfl) rfl ?_
      refine ao_aload_n 0 dX12_quit_9 rfl rfl ?_
      refine ao_iload_n 1 dX12_quit_10 rfl rfl ?_
      refine ao_iload_n 2 dX12_quit_11 rfl rfl ?_
      obtain ⟨p6, hp6, h⟩ := ao_bind h
      refine an_callVi r0 12 (q := (RX12, TX12, 83)) [.int x1, .int v5] (aX12_level (d - 1) (by omega) r0 x1 v5 M ρ hp6) dX12_quit_12 lc_X12_360 li_X12_level ls_X12_level rfl hk1 rfl rfl (Nat.le_of_ble_eq_true rfl) (ao_hR (by omega) (by decide)) ?_
      refine an_topi (fun v7 hv7 => ?_)
      replace h := ao_letD h hv7
      refine ao_istore_n 3 (lo' := [some (.ref (Γ.2.2.2 + r0)), some (.int x1), some (.int v5), some (.int v7)]) dX12_quit_15 rfl (Nat.le_of_ble_eq_true rfl) rfl ?_
      refine ao_aload_n 0 dX12_quit_16 rfl rfl ?_
      refine ao_iload_n 1 dX12_quit_17 rfl rfl ?_
      refine ao_iload_n 2 dX12_quit_18 rfl rfl ?_
      refine ao_iconst (v := 1) dX12_quit_19 (by decide) ?_
      obtain ⟨p8, hp8, h⟩ := ao_bind h
      refine an_callVv r0 12 (q := (RX12, TX12, 83)) [.int x1, .int v5, .int (1 : Int32)] (aX12_takeBackTo (d - 1) (by omega) _ r0 x1 v5 (1 : Int32) p6.2 ρ hp8) dX12_quit_20 lc_X12_382 li_X12_takeBackTo ls_X12_takeBackTo rfl hk1 rfl rfl (Nat.le_of_ble_eq_true rfl) (ao_hR (by omega) (by decide)) ?_
      refine ao_aload_n 0 dX12_quit_23 rfl rfl ?_
      obtain ⟨j9, hj9, h⟩ := ao_bind h
      refine an_getR r0 12 30 (q := (RX12, TX12, 83)) dX12_quit_24 rfl hk1 (Nat.le_of_ble_eq_true rfl) rfl lf_X12_190 hj9 ?_
      refine ao_iload_n 1 dX12_quit_27 rfl rfl ?_
      refine ao_aload_n 0 dX12_quit_28 rfl rfl ?_
      obtain ⟨j10, hj10, h⟩ := ao_bind h
      refine an_getR r0 12 50 (q := (RX12, TX12, 83)) dX12_quit_29 rfl hk1 (Nat.le_of_ble_eq_true rfl) rfl lf_X12_250 hj10 ?_
      refine ao_iload_n 3 dX12_quit_32 rfl rfl ?_
      obtain ⟨hk11, h⟩ := ao_some h
      obtain ⟨hb12, h⟩ := ao_some h
      refine an_iaload j10 dX12_quit_33 hk11 hb12 ?_
      obtain ⟨hk13, h⟩ := ao_some h
      obtain ⟨hb14, h⟩ := ao_some h
      refine an_iastore j9 dX12_quit_34 hk13 hb14 (fun M15 hM15 => ?_)
      replace h := ao_letD h hM15
      refine ao_aload_n 0 dX12_quit_35 rfl rfl ?_
      obtain ⟨j16, hj16, h⟩ := ao_bind h
      refine an_getR r0 12 35 (q := (RX12, TX12, 83)) dX12_quit_36 rfl hk1 (Nat.le_of_ble_eq_true rfl) rfl lf_X12_205 hj16 ?_
      refine ao_iload_n 1 dX12_quit_39 rfl rfl ?_
      refine ao_aload_n 0 dX12_quit_40 rfl rfl ?_
      obtain ⟨j17, hj17, h⟩ := ao_bind h
      refine an_getR r0 12 51 (q := (RX12, TX12, 83)) dX12_quit_41 rfl hk1 (Nat.le_of_ble_eq_true rfl) rfl lf_X12_253 hj17 ?_
      refine ao_iload_n 3 dX12_quit_44 rfl rfl ?_
      obtain ⟨hk18, h⟩ := ao_some h
      obtain ⟨hb19, h⟩ := ao_some h
      refine an_iaload j17 dX12_quit_45 hk18 hb19 ?_
      refine ao_iconst (v := 1) dX12_quit_46 (by decide) ?_
      refine ao_isub dX12_quit_47 ?_
      obtain ⟨hk20, h⟩ := ao_some h
      obtain ⟨hb21, h⟩ := ao_some h
      refine an_iastore j16 dX12_quit_48 hk20 hb21 (fun M22 hM22 => ?_)
      replace h := ao_letD h hM22
      refine ao_aload_n 0 dX12_quit_49 rfl rfl ?_
      obtain ⟨j23, hj23, h⟩ := ao_bind h
      refine an_getR r0 12 36 (q := (RX12, TX12, 83)) dX12_quit_50 rfl hk1 (Nat.le_of_ble_eq_true rfl) rfl lf_X12_208 hj23 ?_
      refine ao_iload_n 1 dX12_quit_53 rfl rfl ?_
      refine ao_aload_n 0 dX12_quit_54 rfl rfl ?_
      obtain ⟨j24, hj24, h⟩ := ao_bind h
      refine an_getR r0 12 52 (q := (RX12, TX12, 83)) dX12_quit_55 rfl hk1 (Nat.le_of_ble_eq_true rfl) rfl lf_X12_256 hj24 ?_
      refine ao_iload_n 3 dX12_quit_58 rfl rfl ?_
      obtain ⟨hk25, h⟩ := ao_some h
      obtain ⟨hb26, h⟩ := ao_some h
      refine an_iaload j24 dX12_quit_59 hk25 hb26 ?_
      obtain ⟨hk27, h⟩ := ao_some h
      obtain ⟨hb28, h⟩ := ao_some h
      refine an_iastore j23 dX12_quit_60 hk27 hb28 (fun M29 hM29 => ?_)
      replace h := ao_letD h hM29
      refine ao_aload_n 0 dX12_quit_61 rfl rfl ?_
      refine an_getR r0 12 34 (q := (RX12, TX12, 83)) dX12_quit_62 rfl hk1 (Nat.le_of_ble_eq_true rfl) rfl lf_X12_202 hj2 ?_
      refine ao_iload_n 1 dX12_quit_65 rfl rfl ?_
      refine ao_iload_n 2 dX12_quit_66 rfl rfl ?_
      refine an_iastore j2 dX12_quit_67 hk3 hb4 (fun M30 hM30 => ?_)
      replace h := ao_letD h hM30
      refine ao_iload_n 2 dX12_quit_68 rfl rfl ?_
      refine ao_if_ne 77 dX12_quit_69 (by decide) (fun c31 => ?_) (fun c31 => ?_)
      · replace h := ao_ifF h c31
        exact ih.2 r0 x1 v5 v7 M30 ρ _ h
      · replace h := ao_ifT h c31
        refine ao_aload_n 0 dX12_quit_72 rfl rfl ?_
        refine ao_iload_n 1 dX12_quit_73 rfl rfl ?_
        obtain ⟨p32, hp32, h⟩ := ao_bind h
        refine ba_callVv r0 12 (q := (RX12, TX12, 83)) [.int x1] (aX12_leave (d - 1) (by omega) n r0 x1 M30 ρ hp32) dX12_quit_74 lc_X12_446 li_X12_leave ls_X12_leave rfl hk1 rfl rfl (Nat.le_of_ble_eq_true rfl) (ao_hR (by omega) (by decide)) (ao_leC (me_X12_leave n r0 x1 M30 ρ hp32) ((mX12_quit n).2 r0 x1 v5 v7 p32.1 p32.2 _ h)) (ao_leS (me_X12_leave n r0 x1 M30 ρ hp32) ((mX12_quit n).2 r0 x1 v5 v7 p32.1 p32.2 _ h)) ?_
        exact ih.2 r0 x1 v5 v7 p32.1 p32.2 _ h
    · intro r0 x1 x2 x3 M ρ y h
      replace h := ao_ifF h (by decide)
      replace h := ao_ifT h rfl
      refine ao_iconst (v := 0) dX12_quit_77 (by decide) ?_
      cases h
      exact ao_ireturn dX12_quit_78 rfl rfl ⟨rfl, rfl⟩
theorem me_X12_quit (n : Nat) (r0 : Nat) (x1 : Int32) (M : ao_M) (ρ : ao_H) {y : Int32 × ao_S} (h : gX12_quit n r0 x1 M ρ = some y) : ao_le ρ y.2.2 := (mX12_quit n).1 r0 x1 M ρ y h
set_option maxRecDepth 100000 in
set_option maxHeartbeats 4000000 in
theorem aX12_quit {Γ : ao_C} (d : Nat) (hd : 4 ≤ d) (n : Nat) (r0 : Nat) (x1 : Int32) (M : ao_M) (ρ : ao_H) {y : Int32 × ao_S} (h : gX12_quit n r0 x1 M ρ = some y) : ao_A Γ uX12_quit d (ao_dc ρ y.2.2) (ao_ds ρ y.2.2) [.ref (Γ.2.2.2 + r0), .int x1] (M, ρ) (ao_QI y) := by
  refine ao_of (by decide) (ao_cat1 (Nat.le_of_ble_eq_true rfl)) (Nat.le_of_ble_eq_true rfl) ?_
  show ao_W Γ uX12_quit (ao_rm d (ao_dc ρ y.2.2) (ao_ds ρ y.2.2)) (ao_Q Γ (ao_QI y) (ao_dc ρ y.2.2) (ao_ds ρ y.2.2)) (ao_dc ρ y.2.2) (ao_ds ρ y.2.2) 0 [some (.ref (Γ.2.2.2 + r0)), some (.int x1), none, none] [] (M, ρ)
  exact (wX12_quit d hd _ _ n).1 r0 x1 M ρ y h

abbrev uX12_fail : ao_Mi := (yX12_fail, cX12_fail, 6, (some .int), [])
def fX12_fail : Nat → Nat → Nat → Int32 → Int32 → Int32 → Int32 → Int32 →  ao_M → ao_H → Option (Int32 × ao_S)
  | 0, _, _, _, _, _, _, _, _, _ => none
  | n + 1, pc, r0, x1, x2, x3, x4, s0, M, ρ =>
    if pc = 0 then
      if ρ.2.1 r0 = 22 then
      (ρ.1 r0 36).bind fun j2 =>
      if ρ.2.1 j2 = 0 then
      if ¬ (x1 < 0 ∨ ρ.2.2.1 j2 ≤ x1.toNatClampNeg) then
      if (M j2 x1.toNatClampNeg) ≤ 0 then
        fX12_fail n 31 r0 x1 x2 0 0 (0 : Int32) M ρ
      else
        (ρ.1 r0 46).bind fun j6 =>
        (gX12_level r0 x1 ((M j2 x1.toNatClampNeg) - (1 : Int32)) M ρ).bind fun p7 =>
        if ρ.2.1 j6 = 0 then
        if ¬ (p7.1 < 0 ∨ ρ.2.2.1 j6 ≤ p7.1.toNatClampNeg) then
        fX12_fail n 31 r0 x1 x2 0 0 (p7.2 j6 p7.1.toNatClampNeg) p7.2 ρ
        else none
        else none
      else none
      else none
      else none
    else if pc = 31 then
      if ρ.2.1 r0 = 22 then
      (ρ.1 r0 34).bind fun j11 =>
      if ρ.2.1 j11 = 0 then
      if ¬ (x1 < 0 ∨ ρ.2.2.1 j11 ≤ x1.toNatClampNeg) then
      if (M j11 x1.toNatClampNeg) ≤ 0 then
        fX12_fail n 46 r0 x1 x2 s0 0 (0 : Int32) M ρ
      else
        fX12_fail n 46 r0 x1 x2 s0 0 (1 : Int32) M ρ
      else none
      else none
      else none
    else if pc = 46 then
      if ρ.2.1 r0 = 22 then
      (gX12_takeBackTo n r0 x1 x3 (1 : Int32) M ρ).bind fun p16 =>
      (ρ.1 r0 34).bind fun j17 =>
      if ρ.2.1 j17 = 0 then
      if ¬ (x1 < 0 ∨ ρ.2.2.1 j17 ≤ x1.toNatClampNeg) then
      ao_let (ao_u p16 j17 x1.toNatClampNeg x3) fun M20 =>
      if s0 = 0 then
        fX12_fail n 76 r0 x1 x2 x3 s0 0 M20 ρ
      else
        if x3 = 0 then
          (gX12_leave n r0 x1 M20 ρ).bind fun p23 =>
          fX12_fail n 76 r0 x1 x2 x3 s0 0 p23.1 p23.2
        else
          fX12_fail n 76 r0 x1 x2 x3 s0 0 M20 ρ
      else none
      else none
      else none
    else if pc = 76 then
      if ρ.2.1 r0 = 22 then
      (ρ.1 r0 36).bind fun j25 =>
      if ρ.2.1 j25 = 0 then
      if ¬ (x1 < 0 ∨ ρ.2.2.1 j25 ≤ x1.toNatClampNeg) then
      if (M j25 x1.toNatClampNeg) = 0 then
        (ρ.1 r0 29).bind fun j53 =>
        if ρ.2.1 j53 = 0 then
        if ¬ (x1 < 0 ∨ ρ.2.2.1 j53 ≤ x1.toNatClampNeg) then
        ao_let (ao_u M j53 x1.toNatClampNeg (5 : Int32)) fun M56 =>
        (ρ.1 r0 39).bind fun j57 =>
        if ρ.2.1 j57 = 0 then
        if ¬ (x1 < 0 ∨ ρ.2.2.1 j57 ≤ x1.toNatClampNeg) then
        ao_let (ao_u M56 j57 x1.toNatClampNeg x2) fun M60 =>
        some ((5 : Int32), M60, ρ)
        else none
        else none
        else none
        else none
      else
        ao_let (ao_u M j25 x1.toNatClampNeg ((M j25 x1.toNatClampNeg) - (1 : Int32))) fun M29 =>
        (gX12_level r0 x1 (M29 j25 x1.toNatClampNeg) M29 ρ).bind fun p30 =>
        ao_let p30.1 fun v31 =>
        (ρ.1 r0 35).bind fun j32 =>
        (ρ.1 r0 47).bind fun j33 =>
        if ρ.2.1 j33 = 0 then
        if ¬ (v31 < 0 ∨ ρ.2.2.1 j33 ≤ v31.toNatClampNeg) then
        if ρ.2.1 j32 = 0 then
        if ¬ (x1 < 0 ∨ ρ.2.2.1 j32 ≤ x1.toNatClampNeg) then
        ao_let (ao_u p30.2 j32 x1.toNatClampNeg (p30.2 j33 v31.toNatClampNeg)) fun M38 =>
        (ρ.1 r0 30).bind fun j39 =>
        (ρ.1 r0 44).bind fun j40 =>
        if ρ.2.1 j40 = 0 then
        if ¬ (v31 < 0 ∨ ρ.2.2.1 j40 ≤ v31.toNatClampNeg) then
        if ρ.2.1 j39 = 0 then
        if ¬ (x1 < 0 ∨ ρ.2.2.1 j39 ≤ x1.toNatClampNeg) then
        ao_let (ao_u M38 j39 x1.toNatClampNeg (M38 j40 v31.toNatClampNeg)) fun M45 =>
        (ρ.1 r0 31).bind fun j46 =>
        (ρ.1 r0 45).bind fun j47 =>
        if ρ.2.1 j47 = 0 then
        if ¬ (v31 < 0 ∨ ρ.2.2.1 j47 ≤ v31.toNatClampNeg) then
        if ρ.2.1 j46 = 0 then
        if ¬ (((x1 * (26 : Int32)) + (M45 j47 v31.toNatClampNeg)) < 0 ∨ ρ.2.2.1 j46 ≤ ((x1 * (26 : Int32)) + (M45 j47 v31.toNatClampNeg)).toNatClampNeg) then
        ao_let (ao_u M45 j46 ((x1 * (26 : Int32)) + (M45 j47 v31.toNatClampNeg)).toNatClampNeg x2) fun M52 =>
        some ((-1 : Int32), M52, ρ)
        else none
        else none
        else none
        else none
        else none
        else none
        else none
        else none
        else none
        else none
        else none
        else none
      else none
      else none
      else none
    else none
def gX12_fail (n : Nat) (r0 : Nat) (x1 : Int32) (x2 : Int32) (M : ao_M) (ρ : ao_H) : Option (Int32 × ao_S) := fX12_fail n 0 r0 x1 x2 0 0 0 M ρ
set_option maxRecDepth 100000 in
set_option maxHeartbeats 4000000 in
theorem mX12_fail : ∀ n : Nat, (∀ (r0 : Nat) (x1 : Int32) (x2 : Int32) (M : ao_M) (ρ : ao_H) (y : Int32 × ao_S), fX12_fail n 0 r0 x1 x2 0 0 0 M ρ = some y → ao_le ρ y.2.2) ∧ (∀ (r0 : Nat) (x1 : Int32) (x2 : Int32) (s0 : Int32) (M : ao_M) (ρ : ao_H) (y : Int32 × ao_S), fX12_fail n 31 r0 x1 x2 0 0 s0 M ρ = some y → ao_le ρ y.2.2) ∧ (∀ (r0 : Nat) (x1 : Int32) (x2 : Int32) (x3 : Int32) (s0 : Int32) (M : ao_M) (ρ : ao_H) (y : Int32 × ao_S), fX12_fail n 46 r0 x1 x2 x3 0 s0 M ρ = some y → ao_le ρ y.2.2) ∧ (∀ (r0 : Nat) (x1 : Int32) (x2 : Int32) (x3 : Int32) (x4 : Int32) (M : ao_M) (ρ : ao_H) (y : Int32 × ao_S), fX12_fail n 76 r0 x1 x2 x3 x4 0 M ρ = some y → ao_le ρ y.2.2) := by
  intro n
  induction n with
  | zero => exact ⟨fun _ _ _ _ _ _ h => ao_no h, fun _ _ _ _ _ _ _ h => ao_no h, fun _ _ _ _ _ _ _ _ h => ao_no h, fun _ _ _ _ _ _ _ _ h => ao_no h⟩
  | succ n ih =>
    refine ⟨?_, ?_, ?_, ?_⟩
    · intro r0 x1 x2 M ρ y h
      replace h := ao_ifT h rfl
      obtain ⟨-, h⟩ := ao_some h
      obtain ⟨j2, hj2, h⟩ := ao_bind h
      obtain ⟨-, h⟩ := ao_some h
      obtain ⟨-, h⟩ := ao_some h
      rcases ao_ifC h with h | h
      · exact ih.2.1 r0 x1 x2 (0 : Int32) M ρ _ h
      · obtain ⟨j6, hj6, h⟩ := ao_bind h
        obtain ⟨p7, hp7, h⟩ := ao_bind h
        obtain ⟨-, h⟩ := ao_some h
        obtain ⟨-, h⟩ := ao_some h
        exact ih.2.1 r0 x1 x2 (p7.2 j6 p7.1.toNatClampNeg) p7.2 ρ _ h
    · intro r0 x1 x2 s0 M ρ y h
      replace h := ao_ifF h (by decide)
      replace h := ao_ifT h rfl
      obtain ⟨-, h⟩ := ao_some h
      obtain ⟨j11, hj11, h⟩ := ao_bind h
      obtain ⟨-, h⟩ := ao_some h
      obtain ⟨-, h⟩ := ao_some h
      rcases ao_ifC h with h | h
      · exact ih.2.2.1 r0 x1 x2 s0 (0 : Int32) M ρ _ h
      · exact ih.2.2.1 r0 x1 x2 s0 (1 : Int32) M ρ _ h
    · intro r0 x1 x2 x3 s0 M ρ y h
      replace h := ao_ifF h (by decide)
      replace h := ao_ifF h (by decide)
      replace h := ao_ifT h rfl
      obtain ⟨-, h⟩ := ao_some h
      obtain ⟨p16, hp16, h⟩ := ao_bind h
      obtain ⟨j17, hj17, h⟩ := ao_bind h
      obtain ⟨-, h⟩ := ao_some h
      obtain ⟨-, h⟩ := ao_some h
      replace h := ao_letD h rfl
      generalize (ao_u p16 j17 x1.toNatClampNeg x3) = M20 at h
      rcases ao_ifC h with h | h
      · exact ih.2.2.2 r0 x1 x2 x3 s0 M20 ρ _ h
      · rcases ao_ifC h with h | h
        · obtain ⟨p23, hp23, h⟩ := ao_bind h
          exact ao_le_tr (me_X12_leave n r0 x1 M20 ρ hp23) (ih.2.2.2 r0 x1 x2 x3 s0 p23.1 p23.2 _ h)
        · exact ih.2.2.2 r0 x1 x2 x3 s0 M20 ρ _ h
    · intro r0 x1 x2 x3 x4 M ρ y h
      replace h := ao_ifF h (by decide)
      replace h := ao_ifF h (by decide)
      replace h := ao_ifF h (by decide)
      replace h := ao_ifT h rfl
      obtain ⟨-, h⟩ := ao_some h
      obtain ⟨j25, hj25, h⟩ := ao_bind h
      obtain ⟨-, h⟩ := ao_some h
      obtain ⟨-, h⟩ := ao_some h
      rcases ao_ifC h with h | h
      · obtain ⟨j53, hj53, h⟩ := ao_bind h
        obtain ⟨-, h⟩ := ao_some h
        obtain ⟨-, h⟩ := ao_some h
        replace h := ao_letD h rfl
        generalize (ao_u M j53 x1.toNatClampNeg (5 : Int32)) = M56 at h
        obtain ⟨j57, hj57, h⟩ := ao_bind h
        obtain ⟨-, h⟩ := ao_some h
        obtain ⟨-, h⟩ := ao_some h
        replace h := ao_letD h rfl
        generalize (ao_u M56 j57 x1.toNatClampNeg x2) = M60 at h
        cases h
        exact ao_le_rf _
      · replace h := ao_letD h rfl
        generalize (ao_u M j25 x1.toNatClampNeg ((M j25 x1.toNatClampNeg) - (1 : Int32))) = M29 at h
        obtain ⟨p30, hp30, h⟩ := ao_bind h
        replace h := ao_letD h rfl
        generalize p30.1 = v31 at h
        obtain ⟨j32, hj32, h⟩ := ao_bind h
        obtain ⟨j33, hj33, h⟩ := ao_bind h
        obtain ⟨-, h⟩ := ao_some h
        obtain ⟨-, h⟩ := ao_some h
        obtain ⟨-, h⟩ := ao_some h
        obtain ⟨-, h⟩ := ao_some h
        replace h := ao_letD h rfl
        generalize (ao_u p30.2 j32 x1.toNatClampNeg (p30.2 j33 v31.toNatClampNeg)) = M38 at h
        obtain ⟨j39, hj39, h⟩ := ao_bind h
        obtain ⟨j40, hj40, h⟩ := ao_bind h
        obtain ⟨-, h⟩ := ao_some h
        obtain ⟨-, h⟩ := ao_some h
        obtain ⟨-, h⟩ := ao_some h
        obtain ⟨-, h⟩ := ao_some h
        replace h := ao_letD h rfl
        generalize (ao_u M38 j39 x1.toNatClampNeg (M38 j40 v31.toNatClampNeg)) = M45 at h
        obtain ⟨j46, hj46, h⟩ := ao_bind h
        obtain ⟨j47, hj47, h⟩ := ao_bind h
        obtain ⟨-, h⟩ := ao_some h
        obtain ⟨-, h⟩ := ao_some h
        obtain ⟨-, h⟩ := ao_some h
        obtain ⟨-, h⟩ := ao_some h
        replace h := ao_letD h rfl
        generalize (ao_u M45 j46 ((x1 * (26 : Int32)) + (M45 j47 v31.toNatClampNeg)).toNatClampNeg x2) = M52 at h
        cases h
        exact ao_le_rf _
set_option maxRecDepth 100000 in
set_option maxHeartbeats 4000000 in
theorem wX12_fail {Γ : ao_C} (d : Nat) (hd : 4 ≤ d) (MC MS : Nat) : ∀ n : Nat, (∀ (r0 : Nat) (x1 : Int32) (x2 : Int32) (M : ao_M) (ρ : ao_H) (y : Int32 × ao_S), fX12_fail n 0 r0 x1 x2 0 0 0 M ρ = some y → ao_W Γ uX12_fail (ao_rm d MC MS) (ao_Q Γ (ao_QI y) MC MS) (ao_dc ρ y.2.2) (ao_ds ρ y.2.2) 0 [some (.ref (Γ.2.2.2 + r0)), some (.int x1), some (.int x2), none, none, none] [] (M, ρ)) ∧ (∀ (r0 : Nat) (x1 : Int32) (x2 : Int32) (s0 : Int32) (M : ao_M) (ρ : ao_H) (y : Int32 × ao_S), fX12_fail n 31 r0 x1 x2 0 0 s0 M ρ = some y → ao_W Γ uX12_fail (ao_rm d MC MS) (ao_Q Γ (ao_QI y) MC MS) (ao_dc ρ y.2.2) (ao_ds ρ y.2.2) 31 [some (.ref (Γ.2.2.2 + r0)), some (.int x1), some (.int x2), none, none, none] [.int s0] (M, ρ)) ∧ (∀ (r0 : Nat) (x1 : Int32) (x2 : Int32) (x3 : Int32) (s0 : Int32) (M : ao_M) (ρ : ao_H) (y : Int32 × ao_S), fX12_fail n 46 r0 x1 x2 x3 0 s0 M ρ = some y → ao_W Γ uX12_fail (ao_rm d MC MS) (ao_Q Γ (ao_QI y) MC MS) (ao_dc ρ y.2.2) (ao_ds ρ y.2.2) 46 [some (.ref (Γ.2.2.2 + r0)), some (.int x1), some (.int x2), some (.int x3), none, none] [.int s0] (M, ρ)) ∧ (∀ (r0 : Nat) (x1 : Int32) (x2 : Int32) (x3 : Int32) (x4 : Int32) (M : ao_M) (ρ : ao_H) (y : Int32 × ao_S), fX12_fail n 76 r0 x1 x2 x3 x4 0 M ρ = some y → ao_W Γ uX12_fail (ao_rm d MC MS) (ao_Q Γ (ao_QI y) MC MS) (ao_dc ρ y.2.2) (ao_ds ρ y.2.2) 76 [some (.ref (Γ.2.2.2 + r0)), some (.int x1), some (.int x2), some (.int x3), some (.int x4), none] [] (M, ρ)) := by
  intro n
  induction n with
  | zero => exact ⟨fun _ _ _ _ _ _ h => ao_no h, fun _ _ _ _ _ _ _ h => ao_no h, fun _ _ _ _ _ _ _ _ h => ao_no h, fun _ _ _ _ _ _ _ _ h => ao_no h⟩
  | succ n ih =>
    refine ⟨?_, ?_, ?_, ?_⟩
    · intro r0 x1 x2 M ρ y h
      replace h := ao_ifT h rfl
      refine ao_aload_n 0 dX12_fail_0 rfl rfl ?_
      obtain ⟨hk1, h⟩ := ao_some h
      obtain ⟨j2, hj2, h⟩ := ao_bind h
      refine an_getR r0 12 36 (q := (RX12, TX12, 83)) dX12_fail_1 rfl hk1 (Nat.le_of_ble_eq_true rfl) rfl lf_X12_208 hj2 ?_
      refine ao_iload_n 1 dX12_fail_4 rfl rfl ?_
      obtain ⟨hk3, h⟩ := ao_some h
      obtain ⟨hb4, h⟩ := ao_some h
      refine an_iaload j2 dX12_fail_5 hk3 hb4 ?_
      refine ao_if_le 30 dX12_fail_6 (by decide) (fun c5 => ?_) (fun c5 => ?_)
      · replace h := ao_ifT h c5
        refine ao_iconst (v := 0) dX12_fail_30 (by decide) ?_
        exact ih.2.1 r0 x1 x2 (0 : Int32) M ρ _ h
      · replace h := ao_ifF h c5
        refine ao_aload_n 0 dX12_fail_9 rfl rfl ?_
        obtain ⟨j6, hj6, h⟩ := ao_bind h
        refine an_getR r0 12 46 (q := (RX12, TX12, 83)) dX12_fail_10 rfl hk1 (Nat.le_of_ble_eq_true rfl) rfl lf_X12_238 hj6 ?_
        refine ao_aload_n 0 dX12_fail_13 rfl rfl ?_
        refine ao_iload_n 1 dX12_fail_14 rfl rfl ?_
        refine ao_aload_n 0 dX12_fail_15 rfl rfl ?_
        refine an_getR r0 12 36 (q := (RX12, TX12, 83)) dX12_fail_16 rfl hk1 (Nat.le_of_ble_eq_true rfl) rfl lf_X12_208 hj2 ?_
        refine ao_iload_n 1 dX12_fail_19 rfl rfl ?_
        refine an_iaload j2 dX12_fail_20 hk3 hb4 ?_
        refine ao_iconst (v := 1) dX12_fail_21 (by decide) ?_
        refine ao_isub dX12_fail_22 ?_
        obtain ⟨p7, hp7, h⟩ := ao_bind h
        refine an_callVi r0 12 (q := (RX12, TX12, 83)) [.int x1, .int ((M j2 x1.toNatClampNeg) - (1 : Int32))] (aX12_level (d - 1) (by omega) r0 x1 ((M j2 x1.toNatClampNeg) - (1 : Int32)) M ρ hp7) dX12_fail_23 lc_X12_360 li_X12_level ls_X12_level rfl hk1 rfl rfl (Nat.le_of_ble_eq_true rfl) (ao_hR (by omega) (by decide)) ?_
        obtain ⟨hk8, h⟩ := ao_some h
        obtain ⟨hb9, h⟩ := ao_some h
        refine an_iaload j6 dX12_fail_26 hk8 hb9 ?_
        refine ao_goto 31 dX12_fail_27 (by decide) ?_
        exact ih.2.1 r0 x1 x2 (p7.2 j6 p7.1.toNatClampNeg) p7.2 ρ _ h
    · intro r0 x1 x2 s0 M ρ y h
      replace h := ao_ifF h (by decide)
      replace h := ao_ifT h rfl
      refine ao_istore_n 3 (lo' := [some (.ref (Γ.2.2.2 + r0)), some (.int x1), some (.int x2), some (.int s0), none, none]) dX12_fail_31 rfl (Nat.le_of_ble_eq_true rfl) rfl ?_
      refine ao_aload_n 0 dX12_fail_32 rfl rfl ?_
      obtain ⟨hk10, h⟩ := ao_some h
      obtain ⟨j11, hj11, h⟩ := ao_bind h
      refine an_getR r0 12 34 (q := (RX12, TX12, 83)) dX12_fail_33 rfl hk10 (Nat.le_of_ble_eq_true rfl) rfl lf_X12_202 hj11 ?_
      refine ao_iload_n 1 dX12_fail_36 rfl rfl ?_
      obtain ⟨hk12, h⟩ := ao_some h
      obtain ⟨hb13, h⟩ := ao_some h
      refine an_iaload j11 dX12_fail_37 hk12 hb13 ?_
      refine ao_if_le 45 dX12_fail_38 (by decide) (fun c14 => ?_) (fun c14 => ?_)
      · replace h := ao_ifT h c14
        refine ao_iconst (v := 0) dX12_fail_45 (by decide) ?_
        exact ih.2.2.1 r0 x1 x2 s0 (0 : Int32) M ρ _ h
      · replace h := ao_ifF h c14
        refine ao_iconst (v := 1) dX12_fail_41 (by decide) ?_
        refine ao_goto 46 dX12_fail_42 (by decide) ?_
        exact ih.2.2.1 r0 x1 x2 s0 (1 : Int32) M ρ _ h
    · intro r0 x1 x2 x3 s0 M ρ y h
      replace h := ao_ifF h (by decide)
      replace h := ao_ifF h (by decide)
      replace h := ao_ifT h rfl
      refine ao_istore 4 (lo' := [some (.ref (Γ.2.2.2 + r0)), some (.int x1), some (.int x2), some (.int x3), some (.int s0), none]) dX12_fail_46 (Nat.le_of_ble_eq_true rfl) rfl ?_
      refine ao_aload_n 0 dX12_fail_48 rfl rfl ?_
      refine ao_iload_n 1 dX12_fail_49 rfl rfl ?_
      refine ao_iload_n 3 dX12_fail_50 rfl rfl ?_
      refine ao_iconst (v := 1) dX12_fail_51 (by decide) ?_
      obtain ⟨hk15, h⟩ := ao_some h
      obtain ⟨p16, hp16, h⟩ := ao_bind h
      refine an_callVv r0 12 (q := (RX12, TX12, 83)) [.int x1, .int x3, .int (1 : Int32)] (aX12_takeBackTo (d - 1) (by omega) _ r0 x1 x3 (1 : Int32) M ρ hp16) dX12_fail_52 lc_X12_382 li_X12_takeBackTo ls_X12_takeBackTo rfl hk15 rfl rfl (Nat.le_of_ble_eq_true rfl) (ao_hR (by omega) (by decide)) ?_
      refine ao_aload_n 0 dX12_fail_55 rfl rfl ?_
      obtain ⟨j17, hj17, h⟩ := ao_bind h
      refine an_getR r0 12 34 (q := (RX12, TX12, 83)) dX12_fail_56 rfl hk15 (Nat.le_of_ble_eq_true rfl) rfl lf_X12_202 hj17 ?_
      refine ao_iload_n 1 dX12_fail_59 rfl rfl ?_
      refine ao_iload_n 3 dX12_fail_60 rfl rfl ?_
      obtain ⟨hk18, h⟩ := ao_some h
      obtain ⟨hb19, h⟩ := ao_some h
      refine an_iastore j17 dX12_fail_61 hk18 hb19 (fun M20 hM20 => ?_)
      replace h := ao_letD h hM20
      refine ao_iload 4 dX12_fail_62 rfl ?_
      refine ao_if_eq 76 dX12_fail_64 (by decide) (fun c21 => ?_) (fun c21 => ?_)
      · replace h := ao_ifT h c21
        exact ih.2.2.2 r0 x1 x2 x3 s0 M20 ρ _ h
      · replace h := ao_ifF h c21
        refine ao_iload_n 3 dX12_fail_67 rfl rfl ?_
        refine ao_if_ne 76 dX12_fail_68 (by decide) (fun c22 => ?_) (fun c22 => ?_)
        · replace h := ao_ifF h c22
          exact ih.2.2.2 r0 x1 x2 x3 s0 M20 ρ _ h
        · replace h := ao_ifT h c22
          refine ao_aload_n 0 dX12_fail_71 rfl rfl ?_
          refine ao_iload_n 1 dX12_fail_72 rfl rfl ?_
          obtain ⟨p23, hp23, h⟩ := ao_bind h
          refine ba_callVv r0 12 (q := (RX12, TX12, 83)) [.int x1] (aX12_leave (d - 1) (by omega) n r0 x1 M20 ρ hp23) dX12_fail_73 lc_X12_446 li_X12_leave ls_X12_leave rfl hk15 rfl rfl (Nat.le_of_ble_eq_true rfl) (ao_hR (by omega) (by decide)) (ao_leC (me_X12_leave n r0 x1 M20 ρ hp23) ((mX12_fail n).2.2.2 r0 x1 x2 x3 s0 p23.1 p23.2 _ h)) (ao_leS (me_X12_leave n r0 x1 M20 ρ hp23) ((mX12_fail n).2.2.2 r0 x1 x2 x3 s0 p23.1 p23.2 _ h)) ?_
          exact ih.2.2.2 r0 x1 x2 x3 s0 p23.1 p23.2 _ h
    · intro r0 x1 x2 x3 x4 M ρ y h
      replace h := ao_ifF h (by decide)
      replace h := ao_ifF h (by decide)
      replace h := ao_ifF h (by decide)
      replace h := ao_ifT h rfl
      refine ao_aload_n 0 dX12_fail_76 rfl rfl ?_
      obtain ⟨hk24, h⟩ := ao_some h
      obtain ⟨j25, hj25, h⟩ := ao_bind h
      refine an_getR r0 12 36 (q := (RX12, TX12, 83)) dX12_fail_77 rfl hk24 (Nat.le_of_ble_eq_true rfl) rfl lf_X12_208 hj25 ?_
      refine ao_iload_n 1 dX12_fail_80 rfl rfl ?_
      obtain ⟨hk26, h⟩ := ao_some h
      obtain ⟨hb27, h⟩ := ao_some h
      refine an_iaload j25 dX12_fail_81 hk26 hb27 ?_
      refine ao_if_ne 101 dX12_fail_82 (by decide) (fun c28 => ?_) (fun c28 => ?_)
      · replace h := ao_ifF h c28
        refine ao_aload_n 0 dX12_fail_101 rfl rfl ?_
        refine an_getR r0 12 36 (q := (RX12, TX12, 83)) dX12_fail_102 rfl hk24 (Nat.le_of_ble_eq_true rfl) rfl lf_X12_208 hj25 ?_
        refine ao_iload_n 1 dX12_fail_105 rfl rfl ?_
        refine ao_dup2 dX12_fail_106 rfl rfl ?_
        refine an_iaload j25 dX12_fail_107 hk26 hb27 ?_
        refine ao_iconst (v := 1) dX12_fail_108 (by decide) ?_
        refine ao_isub dX12_fail_109 ?_
        refine an_iastore j25 dX12_fail_110 hk26 hb27 (fun M29 hM29 => ?_)
        replace h := ao_letD h hM29
        refine ao_aload_n 0 dX12_fail_111 rfl rfl ?_
        refine ao_iload_n 1 dX12_fail_112 rfl rfl ?_
        refine ao_aload_n 0 dX12_fail_113 rfl rfl ?_
        refine an_getR r0 12 36 (q := (RX12, TX12, 83)) dX12_fail_114 rfl hk24 (Nat.le_of_ble_eq_true rfl) rfl lf_X12_208 hj25 ?_
        refine ao_iload_n 1 dX12_fail_117 rfl rfl ?_
        refine an_iaload j25 dX12_fail_118 hk26 hb27 ?_
        obtain ⟨p30, hp30, h⟩ := ao_bind h
        refine an_callVi r0 12 (q := (RX12, TX12, 83)) [.int x1, .int (M29 j25 x1.toNatClampNeg)] (aX12_level (d - 1) (by omega) r0 x1 (M29 j25 x1.toNatClampNeg) M29 ρ hp30) dX12_fail_119 lc_X12_360 li_X12_level ls_X12_level rfl hk24 rfl rfl (Nat.le_of_ble_eq_true rfl) (ao_hR (by omega) (by decide)) ?_
        refine an_topi (fun v31 hv31 => ?_)
        replace h := ao_letD h hv31
        refine ao_istore 5 (lo' := [some (.ref (Γ.2.2.2 + r0)), some (.int x1), some (.int x2), some (.int x3), some (.int x4), some (.int v31)]) dX12_fail_122 (Nat.le_of_ble_eq_true rfl) rfl ?_
        refine ao_aload_n 0 dX12_fail_124 rfl rfl ?_
        obtain ⟨j32, hj32, h⟩ := ao_bind h
        refine an_getR r0 12 35 (q := (RX12, TX12, 83)) dX12_fail_125 rfl hk24 (Nat.le_of_ble_eq_true rfl) rfl lf_X12_205 hj32 ?_
        refine ao_iload_n 1 dX12_fail_128 rfl rfl ?_
        refine ao_aload_n 0 dX12_fail_129 rfl rfl ?_
        obtain ⟨j33, hj33, h⟩ := ao_bind h
        refine an_getR r0 12 47 (q := (RX12, TX12, 83)) dX12_fail_130 rfl hk24 (Nat.le_of_ble_eq_true rfl) rfl lf_X12_241 hj33 ?_
        refine ao_iload 5 dX12_fail_133 rfl ?_
        obtain ⟨hk34, h⟩ := ao_some h
        obtain ⟨hb35, h⟩ := ao_some h
        refine an_iaload j33 dX12_fail_135 hk34 hb35 ?_
        obtain ⟨hk36, h⟩ := ao_some h
        obtain ⟨hb37, h⟩ := ao_some h
        refine an_iastore j32 dX12_fail_136 hk36 hb37 (fun M38 hM38 => ?_)
        replace h := ao_letD h hM38
        refine ao_aload_n 0 dX12_fail_137 rfl rfl ?_
        obtain ⟨j39, hj39, h⟩ := ao_bind h
        refine an_getR r0 12 30 (q := (RX12, TX12, 83)) dX12_fail_138 rfl hk24 (Nat.le_of_ble_eq_true rfl) rfl lf_X12_190 hj39 ?_
        refine ao_iload_n 1 dX12_fail_141 rfl rfl ?_
        refine ao_aload_n 0 dX12_fail_142 rfl rfl ?_
        obtain ⟨j40, hj40, h⟩ := ao_bind h
        refine an_getR r0 12 44 (q := (RX12, TX12, 83)) dX12_fail_143 rfl hk24 (Nat.le_of_ble_eq_true rfl) rfl lf_X12_232 hj40 ?_
        refine ao_iload 5 dX12_fail_146 rfl ?_
        obtain ⟨hk41, h⟩ := ao_some h
        obtain ⟨hb42, h⟩ := ao_some h
        refine an_iaload j40 dX12_fail_148 hk41 hb42 ?_
        obtain ⟨hk43, h⟩ := ao_some h
        obtain ⟨hb44, h⟩ := ao_some h
        refine an_iastore j39 dX12_fail_149 hk43 hb44 (fun M45 hM45 => ?_)
        replace h := ao_letD h hM45
        refine ao_aload_n 0 dX12_fail_150 rfl rfl ?_
        obtain ⟨j46, hj46, h⟩ := ao_bind h
        refine an_getR r0 12 31 (q := (RX12, TX12, 83)) dX12_fail_151 rfl hk24 (Nat.le_of_ble_eq_true rfl) rfl lf_X12_193 hj46 ?_
        refine ao_iload_n 1 dX12_fail_154 rfl rfl ?_
        refine ao_bipush (v := 26) dX12_fail_155 (by decide) ?_
        refine ao_imul dX12_fail_157 ?_
        refine ao_aload_n 0 dX12_fail_158 rfl rfl ?_
        obtain ⟨j47, hj47, h⟩ := ao_bind h
        refine an_getR r0 12 45 (q := (RX12, TX12, 83)) dX12_fail_159 rfl hk24 (Nat.le_of_ble_eq_true rfl) rfl lf_X12_235 hj47 ?_
        refine ao_iload 5 dX12_fail_162 rfl ?_
        obtain ⟨hk48, h⟩ := ao_some h
        obtain ⟨hb49, h⟩ := ao_some h
        refine an_iaload j47 dX12_fail_164 hk48 hb49 ?_
        refine ao_iadd dX12_fail_165 ?_
        refine ao_iload_n 2 dX12_fail_166 rfl rfl ?_
        obtain ⟨hk50, h⟩ := ao_some h
        obtain ⟨hb51, h⟩ := ao_some h
        refine an_iastore j46 dX12_fail_167 hk50 hb51 (fun M52 hM52 => ?_)
        replace h := ao_letD h hM52
        refine ao_iconst (v := (-1)) dX12_fail_168 (by decide) ?_
        cases h
        exact ao_ireturn dX12_fail_169 rfl rfl ⟨rfl, rfl⟩
      · replace h := ao_ifT h c28
        refine ao_aload_n 0 dX12_fail_85 rfl rfl ?_
        obtain ⟨j53, hj53, h⟩ := ao_bind h
        refine an_getR r0 12 29 (q := (RX12, TX12, 83)) dX12_fail_86 rfl hk24 (Nat.le_of_ble_eq_true rfl) rfl lf_X12_187 hj53 ?_
        refine ao_iload_n 1 dX12_fail_89 rfl rfl ?_
        refine ao_iconst (v := 5) dX12_fail_90 (by decide) ?_
        obtain ⟨hk54, h⟩ := ao_some h
        obtain ⟨hb55, h⟩ := ao_some h
        refine an_iastore j53 dX12_fail_91 hk54 hb55 (fun M56 hM56 => ?_)
        replace h := ao_letD h hM56
        refine ao_aload_n 0 dX12_fail_92 rfl rfl ?_
        obtain ⟨j57, hj57, h⟩ := ao_bind h
        refine an_getR r0 12 39 (q := (RX12, TX12, 83)) dX12_fail_93 rfl hk24 (Nat.le_of_ble_eq_true rfl) rfl lf_X12_217 hj57 ?_
        refine ao_iload_n 1 dX12_fail_96 rfl rfl ?_
        refine ao_iload_n 2 dX12_fail_97 rfl rfl ?_
        obtain ⟨hk58, h⟩ := ao_some h
        obtain ⟨hb59, h⟩ := ao_some h
        refine an_iastore j57 dX12_fail_98 hk58 hb59 (fun M60 hM60 => ?_)
        replace h := ao_letD h hM60
        refine ao_iconst (v := 5) dX12_fail_99 (by decide) ?_
        cases h
        exact ao_ireturn dX12_fail_100 rfl rfl ⟨rfl, rfl⟩
theorem me_X12_fail (n : Nat) (r0 : Nat) (x1 : Int32) (x2 : Int32) (M : ao_M) (ρ : ao_H) {y : Int32 × ao_S} (h : gX12_fail n r0 x1 x2 M ρ = some y) : ao_le ρ y.2.2 := (mX12_fail n).1 r0 x1 x2 M ρ y h
set_option maxRecDepth 100000 in
set_option maxHeartbeats 4000000 in
theorem aX12_fail {Γ : ao_C} (d : Nat) (hd : 4 ≤ d) (n : Nat) (r0 : Nat) (x1 : Int32) (x2 : Int32) (M : ao_M) (ρ : ao_H) {y : Int32 × ao_S} (h : gX12_fail n r0 x1 x2 M ρ = some y) : ao_A Γ uX12_fail d (ao_dc ρ y.2.2) (ao_ds ρ y.2.2) [.ref (Γ.2.2.2 + r0), .int x1, .int x2] (M, ρ) (ao_QI y) := by
  refine ao_of (by decide) (ao_cat1 (Nat.le_of_ble_eq_true rfl)) (Nat.le_of_ble_eq_true rfl) ?_
  show ao_W Γ uX12_fail (ao_rm d (ao_dc ρ y.2.2) (ao_ds ρ y.2.2)) (ao_Q Γ (ao_QI y) (ao_dc ρ y.2.2) (ao_ds ρ y.2.2)) (ao_dc ρ y.2.2) (ao_ds ρ y.2.2) 0 [some (.ref (Γ.2.2.2 + r0)), some (.int x1), some (.int x2), none, none, none] [] (M, ρ)
  exact (wX12_fail d hd _ _ n).1 r0 x1 x2 M ρ y h

abbrev uX12_hold : ao_Mi := (yX12_hold, cX12_hold, 3, none, [])
def gX12_hold (r0 : Nat) (x1 : Int32) (x2 : Int32) (M : ao_M) (ρ : ao_H) : Option (ao_M) :=
  if ρ.2.1 r0 = 22 then
  (ρ.1 r0 62).bind fun j2 =>
  if ρ.2.1 j2 = 0 then
  if ¬ (x1 < 0 ∨ ρ.2.2.1 j2 ≤ x1.toNatClampNeg) then
  if (M j2 x1.toNatClampNeg) = (200 : Int32) then
    some M
  else
    (ρ.1 r0 61).bind fun j6 =>
    if ρ.2.1 j6 = 0 then
    if ¬ (((x1 * (200 : Int32)) + (M j2 x1.toNatClampNeg)) < 0 ∨ ρ.2.2.1 j6 ≤ ((x1 * (200 : Int32)) + (M j2 x1.toNatClampNeg)).toNatClampNeg) then
    ao_let (ao_u M j6 ((x1 * (200 : Int32)) + (M j2 x1.toNatClampNeg)).toNatClampNeg x2) fun M9 =>
    ao_let (ao_u M9 j2 x1.toNatClampNeg ((M9 j2 x1.toNatClampNeg) + (1 : Int32))) fun M10 =>
    some M10
    else none
    else none
  else none
  else none
  else none
set_option maxRecDepth 100000 in
set_option maxHeartbeats 4000000 in
theorem aX12_hold {Γ : ao_C} (d : Nat) (hd : 0 ≤ d) (r0 : Nat) (x1 : Int32) (x2 : Int32) (M : ao_M) (ρ : ao_H) {y : ao_M} (h : gX12_hold r0 x1 x2 M ρ = some y) : ao_A Γ uX12_hold d 0 0 [.ref (Γ.2.2.2 + r0), .int x1, .int x2] (M, ρ) (ao_PV ρ y) := by
  refine ao_of (by decide) (ao_cat1 (Nat.le_of_ble_eq_true rfl)) (Nat.le_of_ble_eq_true rfl) ?_
  show ao_W Γ uX12_hold (ao_rm d 0 0) (ao_Q Γ (ao_PV ρ y) 0 0) 0 0 0 [some (.ref (Γ.2.2.2 + r0)), some (.int x1), some (.int x2)] [] (M, ρ)
  unfold gX12_hold at h
  refine ao_aload_n 0 dX12_hold_0 rfl rfl ?_
  obtain ⟨hk1, h⟩ := ao_some h
  obtain ⟨j2, hj2, h⟩ := ao_bind h
  refine an_getR r0 12 62 (q := (RX12, TX12, 83)) dX12_hold_1 rfl hk1 (Nat.le_of_ble_eq_true rfl) rfl lf_X12_287 hj2 ?_
  refine ao_iload_n 1 dX12_hold_4 rfl rfl ?_
  obtain ⟨hk3, h⟩ := ao_some h
  obtain ⟨hb4, h⟩ := ao_some h
  refine an_iaload j2 dX12_hold_5 hk3 hb4 ?_
  refine ao_sipush (v := 200) dX12_hold_6 (by decide) ?_
  refine ao_icmp_ne 13 dX12_hold_9 (by decide) (fun c5 => ?_) (fun c5 => ?_)
  · replace h := ao_ifF h c5
    refine ao_aload_n 0 dX12_hold_13 rfl rfl ?_
    obtain ⟨j6, hj6, h⟩ := ao_bind h
    refine an_getR r0 12 61 (q := (RX12, TX12, 83)) dX12_hold_14 rfl hk1 (Nat.le_of_ble_eq_true rfl) rfl lf_X12_284 hj6 ?_
    refine ao_iload_n 1 dX12_hold_17 rfl rfl ?_
    refine ao_sipush (v := 200) dX12_hold_18 (by decide) ?_
    refine ao_imul dX12_hold_21 ?_
    refine ao_aload_n 0 dX12_hold_22 rfl rfl ?_
    refine an_getR r0 12 62 (q := (RX12, TX12, 83)) dX12_hold_23 rfl hk1 (Nat.le_of_ble_eq_true rfl) rfl lf_X12_287 hj2 ?_
    refine ao_iload_n 1 dX12_hold_26 rfl rfl ?_
    refine an_iaload j2 dX12_hold_27 hk3 hb4 ?_
    refine ao_iadd dX12_hold_28 ?_
    refine ao_iload_n 2 dX12_hold_29 rfl rfl ?_
    obtain ⟨hk7, h⟩ := ao_some h
    obtain ⟨hb8, h⟩ := ao_some h
    refine an_iastore j6 dX12_hold_30 hk7 hb8 (fun M9 hM9 => ?_)
    replace h := ao_letD h hM9
    refine ao_aload_n 0 dX12_hold_31 rfl rfl ?_
    refine an_getR r0 12 62 (q := (RX12, TX12, 83)) dX12_hold_32 rfl hk1 (Nat.le_of_ble_eq_true rfl) rfl lf_X12_287 hj2 ?_
    refine ao_iload_n 1 dX12_hold_35 rfl rfl ?_
    refine ao_dup2 dX12_hold_36 rfl rfl ?_
    refine an_iaload j2 dX12_hold_37 hk3 hb4 ?_
    refine ao_iconst (v := 1) dX12_hold_38 (by decide) ?_
    refine ao_iadd dX12_hold_39 ?_
    refine an_iastore j2 dX12_hold_40 hk3 hb4 (fun M10 hM10 => ?_)
    replace h := ao_letD h hM10
    cases h
    exact ao_return dX12_hold_41 rfl ⟨rfl, rfl⟩
  · replace h := ao_ifT h c5
    cases h
    exact ao_return dX12_hold_12 rfl ⟨rfl, rfl⟩

abbrev uX12_doLook : ao_Mi := (yX12_doLook, cX12_doLook, 4, (some .int), [])
def fX12_doLook : Nat → Nat → Nat → Int32 → Int32 → Int32 →  ao_M → ao_H → Option (Int32 × ao_S)
  | 0, _, _, _, _, _, _, _ => none
  | n + 1, pc, r0, x1, x2, s0, M, ρ =>
    if pc = 0 then
      if ρ.2.1 r0 = 22 then
      (ρ.1 r0 29).bind fun j2 =>
      if ρ.2.1 j2 = 0 then
      if ¬ (x1 < 0 ∨ ρ.2.2.1 j2 ≤ x1.toNatClampNeg) then
      if (M j2 x1.toNatClampNeg) = (2 : Int32) then
        (gX12_looks n r0 x1 x2 M ρ).bind fun p21 =>
        fX12_doLook n 16 r0 x1 x2 p21.1 p21.2.1 p21.2.2
      else
        (ρ.1 r0 17).bind fun j6 =>
        if ρ.2.1 j6 = 0 then
        if ¬ (x2 < 0 ∨ ρ.2.2.1 j6 ≤ x2.toNatClampNeg) then
        ao_let (ao_u M r0 77 (M j6 x2.toNatClampNeg)) fun M9 =>
        (gX12_newRecord n r0 x1 (M9 r0 65) M9 ρ).bind fun p10 =>
        ao_let p10.1 fun v11 =>
        if v11 < 0 then
          fX12_doLook n 72 r0 x1 x2 0 p10.2 ρ
        else
          (ρ.1 r0 74).bind fun j13 =>
          if ρ.2.1 j13 = 2 then
          if ¬ (((v11 * (26 : Int32)) + x2) < 0 ∨ ρ.2.2.1 j13 ≤ ((v11 * (26 : Int32)) + x2).toNatClampNeg) then
          ao_let (ao_u p10.2 j13 ((v11 * (26 : Int32)) + x2).toNatClampNeg (1 : Int32)) fun M16 =>
          (ρ.1 r0 72).bind fun j17 =>
          if ρ.2.1 j17 = 0 then
          if ¬ (((v11 * (26 : Int32)) + x2) < 0 ∨ ρ.2.2.1 j17 ≤ ((v11 * (26 : Int32)) + x2).toNatClampNeg) then
          ao_let (ao_u M16 j17 ((v11 * (26 : Int32)) + x2).toNatClampNeg (M16 r0 77)) fun M20 =>
          fX12_doLook n 72 r0 x1 x2 0 M20 ρ
          else none
          else none
          else none
          else none
        else none
        else none
      else none
      else none
      else none
    else if pc = 16 then
      if s0 = 0 then
        some ((1 : Int32), M, ρ)
      else
        fX12_doLook n 72 r0 x1 x2 0 M ρ
    else if pc = 72 then
      if ρ.2.1 r0 = 22 then
      (gX12_push r0 x1 (M r0 77) M ρ).bind fun p24 =>
      (ρ.1 r0 30).bind fun j25 =>
      if ρ.2.1 j25 = 0 then
      if ¬ (x1 < 0 ∨ ρ.2.2.1 j25 ≤ x1.toNatClampNeg) then
      ao_let (ao_u p24 j25 x1.toNatClampNeg ((p24 j25 x1.toNatClampNeg) + (1 : Int32))) fun M28 =>
      some ((0 : Int32), M28, ρ)
      else none
      else none
      else none
    else none
def gX12_doLook (n : Nat) (r0 : Nat) (x1 : Int32) (x2 : Int32) (M : ao_M) (ρ : ao_H) : Option (Int32 × ao_S) := fX12_doLook n 0 r0 x1 x2 0 M ρ
set_option maxRecDepth 100000 in
set_option maxHeartbeats 4000000 in
theorem mX12_doLook : ∀ n : Nat, (∀ (r0 : Nat) (x1 : Int32) (x2 : Int32) (M : ao_M) (ρ : ao_H) (y : Int32 × ao_S), fX12_doLook n 0 r0 x1 x2 0 M ρ = some y → ao_le ρ y.2.2) ∧ (∀ (r0 : Nat) (x1 : Int32) (x2 : Int32) (s0 : Int32) (M : ao_M) (ρ : ao_H) (y : Int32 × ao_S), fX12_doLook n 16 r0 x1 x2 s0 M ρ = some y → ao_le ρ y.2.2) ∧ (∀ (r0 : Nat) (x1 : Int32) (x2 : Int32) (M : ao_M) (ρ : ao_H) (y : Int32 × ao_S), fX12_doLook n 72 r0 x1 x2 0 M ρ = some y → ao_le ρ y.2.2) := by
  intro n
  induction n with
  | zero => exact ⟨fun _ _ _ _ _ _ h => ao_no h, fun _ _ _ _ _ _ _ h => ao_no h, fun _ _ _ _ _ _ h => ao_no h⟩
  | succ n ih =>
    refine ⟨?_, ?_, ?_⟩
    · intro r0 x1 x2 M ρ y h
      replace h := ao_ifT h rfl
      obtain ⟨-, h⟩ := ao_some h
      obtain ⟨j2, hj2, h⟩ := ao_bind h
      obtain ⟨-, h⟩ := ao_some h
      obtain ⟨-, h⟩ := ao_some h
      rcases ao_ifC h with h | h
      · obtain ⟨p21, hp21, h⟩ := ao_bind h
        exact ao_le_tr (me_X12_looks n r0 x1 x2 M ρ hp21) (ih.2.1 r0 x1 x2 p21.1 p21.2.1 p21.2.2 _ h)
      · obtain ⟨j6, hj6, h⟩ := ao_bind h
        obtain ⟨-, h⟩ := ao_some h
        obtain ⟨-, h⟩ := ao_some h
        replace h := ao_letD h rfl
        generalize (ao_u M r0 77 (M j6 x2.toNatClampNeg)) = M9 at h
        obtain ⟨p10, hp10, h⟩ := ao_bind h
        replace h := ao_letD h rfl
        generalize p10.1 = v11 at h
        rcases ao_ifC h with h | h
        · exact ih.2.2 r0 x1 x2 p10.2 ρ _ h
        · obtain ⟨j13, hj13, h⟩ := ao_bind h
          obtain ⟨-, h⟩ := ao_some h
          obtain ⟨-, h⟩ := ao_some h
          replace h := ao_letD h rfl
          generalize (ao_u p10.2 j13 ((v11 * (26 : Int32)) + x2).toNatClampNeg (1 : Int32)) = M16 at h
          obtain ⟨j17, hj17, h⟩ := ao_bind h
          obtain ⟨-, h⟩ := ao_some h
          obtain ⟨-, h⟩ := ao_some h
          replace h := ao_letD h rfl
          generalize (ao_u M16 j17 ((v11 * (26 : Int32)) + x2).toNatClampNeg (M16 r0 77)) = M20 at h
          exact ih.2.2 r0 x1 x2 M20 ρ _ h
    · intro r0 x1 x2 s0 M ρ y h
      replace h := ao_ifF h (by decide)
      replace h := ao_ifT h rfl
      rcases ao_ifC h with h | h
      · cases h
        exact ao_le_rf _
      · exact ih.2.2 r0 x1 x2 M ρ _ h
    · intro r0 x1 x2 M ρ y h
      replace h := ao_ifF h (by decide)
      replace h := ao_ifF h (by decide)
      replace h := ao_ifT h rfl
      obtain ⟨-, h⟩ := ao_some h
      obtain ⟨p24, hp24, h⟩ := ao_bind h
      obtain ⟨j25, hj25, h⟩ := ao_bind h
      obtain ⟨-, h⟩ := ao_some h
      obtain ⟨-, h⟩ := ao_some h
      replace h := ao_letD h rfl
      generalize (ao_u p24 j25 x1.toNatClampNeg ((p24 j25 x1.toNatClampNeg) + (1 : Int32))) = M28 at h
      cases h
      exact ao_le_rf _
set_option maxRecDepth 100000 in
set_option maxHeartbeats 4000000 in
theorem wX12_doLook {Γ : ao_C} (d : Nat) (hd : 7 ≤ d) (MC MS : Nat) : ∀ n : Nat, (∀ (r0 : Nat) (x1 : Int32) (x2 : Int32) (M : ao_M) (ρ : ao_H) (y : Int32 × ao_S), fX12_doLook n 0 r0 x1 x2 0 M ρ = some y → ao_W Γ uX12_doLook (ao_rm d MC MS) (ao_Q Γ (ao_QI y) MC MS) (ao_dc ρ y.2.2) (ao_ds ρ y.2.2) 0 [some (.ref (Γ.2.2.2 + r0)), some (.int x1), some (.int x2), none] [] (M, ρ)) ∧ (∀ (r0 : Nat) (x1 : Int32) (x2 : Int32) (s0 : Int32) (M : ao_M) (ρ : ao_H) (y : Int32 × ao_S), fX12_doLook n 16 r0 x1 x2 s0 M ρ = some y → ao_W Γ uX12_doLook (ao_rm d MC MS) (ao_Q Γ (ao_QI y) MC MS) (ao_dc ρ y.2.2) (ao_ds ρ y.2.2) 16 [some (.ref (Γ.2.2.2 + r0)), some (.int x1), some (.int x2), none] [.int s0] (M, ρ)) ∧ (∀ (r0 : Nat) (x1 : Int32) (x2 : Int32) (M : ao_M) (ρ : ao_H) (y : Int32 × ao_S), fX12_doLook n 72 r0 x1 x2 0 M ρ = some y → ao_W Γ uX12_doLook (ao_rm d MC MS) (ao_Q Γ (ao_QI y) MC MS) (ao_dc ρ y.2.2) (ao_ds ρ y.2.2) 72 [some (.ref (Γ.2.2.2 + r0)), some (.int x1), some (.int x2), none] [] (M, ρ)) := by
  intro n
  induction n with
  | zero => exact ⟨fun _ _ _ _ _ _ h => ao_no h, fun _ _ _ _ _ _ _ h => ao_no h, fun _ _ _ _ _ _ h => ao_no h⟩
  | succ n ih =>
    refine ⟨?_, ?_, ?_⟩
    · intro r0 x1 x2 M ρ y h
      replace h := ao_ifT h rfl
      refine ao_aload_n 0 dX12_doLook_0 rfl rfl ?_
      obtain ⟨hk1, h⟩ := ao_some h
      obtain ⟨j2, hj2, h⟩ := ao_bind h
      refine an_getR r0 12 29 (q := (RX12, TX12, 83)) dX12_doLook_1 rfl hk1 (Nat.le_of_ble_eq_true rfl) rfl lf_X12_187 hj2 ?_
      refine ao_iload_n 1 dX12_doLook_4 rfl rfl ?_
      obtain ⟨hk3, h⟩ := ao_some h
      obtain ⟨hb4, h⟩ := ao_some h
      refine an_iaload j2 dX12_doLook_5 hk3 hb4 ?_
      refine ao_iconst (v := 2) dX12_doLook_6 (by decide) ?_
      refine ao_icmp_ne 21 dX12_doLook_7 (by decide) (fun c5 => ?_) (fun c5 => ?_)
      · replace h := ao_ifF h c5
        refine ao_aload_n 0 dX12_doLook_21 rfl rfl ?_
        refine ao_aload_n 0 dX12_doLook_22 rfl rfl ?_
        obtain ⟨j6, hj6, h⟩ := ao_bind h
        refine an_getR r0 12 17 (q := (RX12, TX12, 83)) dX12_doLook_23 rfl hk1 (Nat.le_of_ble_eq_true rfl) rfl lf_X12_151 hj6 ?_
        refine ao_iload_n 2 dX12_doLook_26 rfl rfl ?_
        obtain ⟨hk7, h⟩ := ao_some h
        obtain ⟨hb8, h⟩ := ao_some h
        refine an_iaload j6 dX12_doLook_27 hk7 hb8 ?_
        refine an_putI r0 12 77 (q := (RX12, TX12, 83)) dX12_doLook_28 rfl hk1 (Nat.le_of_ble_eq_true rfl) lf_X12_405 rfl rfl rfl rfl (fun M9 hM9 => ?_)
        replace h := ao_letD h hM9
        refine ao_aload_n 0 dX12_doLook_31 rfl rfl ?_
        refine ao_iload_n 1 dX12_doLook_32 rfl rfl ?_
        refine ao_aload_n 0 dX12_doLook_33 rfl rfl ?_
        refine an_getI r0 12 65 (q := (RX12, TX12, 83)) dX12_doLook_34 rfl hk1 (Nat.le_of_ble_eq_true rfl) rfl lf_X12_341 ?_
        obtain ⟨p10, hp10, h⟩ := ao_bind h
        refine an_callVi r0 12 (q := (RX12, TX12, 83)) [.int x1, .int (M9 r0 65)] (aX12_newRecord (d - 1) (by omega) _ r0 x1 (M9 r0 65) M9 ρ hp10) dX12_doLook_37 lc_X12_425 li_X12_newRecord ls_X12_newRecord rfl hk1 rfl rfl (Nat.le_of_ble_eq_true rfl) (ao_hR (by omega) (by decide)) ?_
        refine an_topi (fun v11 hv11 => ?_)
        replace h := ao_letD h hv11
        refine ao_istore_n 3 (lo' := [some (.ref (Γ.2.2.2 + r0)), some (.int x1), some (.int x2), some (.int v11)]) dX12_doLook_40 rfl (Nat.le_of_ble_eq_true rfl) rfl ?_
        refine ao_iload_n 3 dX12_doLook_41 rfl rfl ?_
        refine ao_if_lt 72 dX12_doLook_42 (by decide) (fun c12 => ?_) (fun c12 => ?_)
        · replace h := ao_ifT h c12
          refine ao_loForget (lo' := [some (.ref (Γ.2.2.2 + r0)), some (.int x1), some (.int x2), none]) (ao_fgS (ao_fgS (ao_fgS (ao_fgN ao_fgZ)))) ?_
          exact ih.2.2 r0 x1 x2 p10.2 ρ _ h
        · replace h := ao_ifF h c12
          refine ao_aload_n 0 dX12_doLook_45 rfl rfl ?_
          obtain ⟨j13, hj13, h⟩ := ao_bind h
          refine an_getR r0 12 74 (q := (RX12, TX12, 83)) dX12_doLook_46 rfl hk1 (Nat.le_of_ble_eq_true rfl) rfl lf_X12_311 hj13 ?_
          refine ao_iload_n 3 dX12_doLook_49 rfl rfl ?_
          refine ao_bipush (v := 26) dX12_doLook_50 (by decide) ?_
          refine ao_imul dX12_doLook_52 ?_
          refine ao_iload_n 2 dX12_doLook_53 rfl rfl ?_
          refine ao_iadd dX12_doLook_54 ?_
          refine ao_iconst (v := 1) dX12_doLook_55 (by decide) ?_
          obtain ⟨hk14, h⟩ := ao_some h
          obtain ⟨hb15, h⟩ := ao_some h
          refine an_zastore j13 dX12_doLook_56 hk14 hb15 rfl (fun M16 hM16 => ?_)
          replace h := ao_letD h hM16
          refine ao_aload_n 0 dX12_doLook_57 rfl rfl ?_
          obtain ⟨j17, hj17, h⟩ := ao_bind h
          refine an_getR r0 12 72 (q := (RX12, TX12, 83)) dX12_doLook_58 rfl hk1 (Nat.le_of_ble_eq_true rfl) rfl lf_X12_305 hj17 ?_
          refine ao_iload_n 3 dX12_doLook_61 rfl rfl ?_
          refine ao_bipush (v := 26) dX12_doLook_62 (by decide) ?_
          refine ao_imul dX12_doLook_64 ?_
          refine ao_iload_n 2 dX12_doLook_65 rfl rfl ?_
          refine ao_iadd dX12_doLook_66 ?_
          refine ao_aload_n 0 dX12_doLook_67 rfl rfl ?_
          refine an_getI r0 12 77 (q := (RX12, TX12, 83)) dX12_doLook_68 rfl hk1 (Nat.le_of_ble_eq_true rfl) rfl lf_X12_405 ?_
          obtain ⟨hk18, h⟩ := ao_some h
          obtain ⟨hb19, h⟩ := ao_some h
          refine an_iastore j17 dX12_doLook_71 hk18 hb19 (fun M20 hM20 => ?_)
          replace h := ao_letD h hM20
          refine ao_loForget (lo' := [some (.ref (Γ.2.2.2 + r0)), some (.int x1), some (.int x2), none]) (ao_fgS (ao_fgS (ao_fgS (ao_fgN ao_fgZ)))) ?_
          exact ih.2.2 r0 x1 x2 M20 ρ _ h
      · replace h := ao_ifT h c5
        refine ao_aload_n 0 dX12_doLook_10 rfl rfl ?_
        refine ao_iload_n 1 dX12_doLook_11 rfl rfl ?_
        refine ao_iload_n 2 dX12_doLook_12 rfl rfl ?_
        obtain ⟨p21, hp21, h⟩ := ao_bind h
        refine ba_callVi r0 12 (q := (RX12, TX12, 83)) [.int x1, .int x2] (aX12_looks (d - 1) (by omega) n r0 x1 x2 M ρ hp21) dX12_doLook_13 lc_X12_479 li_X12_looks ls_X12_looks rfl hk1 rfl rfl (Nat.le_of_ble_eq_true rfl) (ao_hR (by omega) (by decide)) (ao_leC (me_X12_looks n r0 x1 x2 M ρ hp21) ((mX12_doLook n).2.1 r0 x1 x2 p21.1 p21.2.1 p21.2.2 _ h)) (ao_leS (me_X12_looks n r0 x1 x2 M ρ hp21) ((mX12_doLook n).2.1 r0 x1 x2 p21.1 p21.2.1 p21.2.2 _ h)) ?_
        exact ih.2.1 r0 x1 x2 p21.1 p21.2.1 p21.2.2 _ h
    · intro r0 x1 x2 s0 M ρ y h
      replace h := ao_ifF h (by decide)
      replace h := ao_ifT h rfl
      refine ao_if_ne 72 dX12_doLook_16 (by decide) (fun c22 => ?_) (fun c22 => ?_)
      · replace h := ao_ifF h c22
        exact ih.2.2 r0 x1 x2 M ρ _ h
      · replace h := ao_ifT h c22
        refine ao_iconst (v := 1) dX12_doLook_19 (by decide) ?_
        cases h
        exact ao_ireturn dX12_doLook_20 rfl rfl ⟨rfl, rfl⟩
    · intro r0 x1 x2 M ρ y h
      replace h := ao_ifF h (by decide)
      replace h := ao_ifF h (by decide)
      replace h := ao_ifT h rfl
      refine ao_aload_n 0 dX12_doLook_72 rfl rfl ?_
      refine ao_iload_n 1 dX12_doLook_73 rfl rfl ?_
      refine ao_aload_n 0 dX12_doLook_74 rfl rfl ?_
      obtain ⟨hk23, h⟩ := ao_some h
      refine an_getI r0 12 77 (q := (RX12, TX12, 83)) dX12_doLook_75 rfl hk23 (Nat.le_of_ble_eq_true rfl) rfl lf_X12_405 ?_
      obtain ⟨p24, hp24, h⟩ := ao_bind h
      refine an_callVv r0 12 (q := (RX12, TX12, 83)) [.int x1, .int (M r0 77)] (aX12_push (d - 1) (by omega) r0 x1 (M r0 77) M ρ hp24) dX12_doLook_78 lc_X12_449 li_X12_push ls_X12_push rfl hk23 rfl rfl (Nat.le_of_ble_eq_true rfl) (ao_hR (by omega) (by decide)) ?_
      refine ao_aload_n 0 dX12_doLook_81 rfl rfl ?_
      obtain ⟨j25, hj25, h⟩ := ao_bind h
      refine an_getR r0 12 30 (q := (RX12, TX12, 83)) dX12_doLook_82 rfl hk23 (Nat.le_of_ble_eq_true rfl) rfl lf_X12_190 hj25 ?_
      refine ao_iload_n 1 dX12_doLook_85 rfl rfl ?_
      refine ao_dup2 dX12_doLook_86 rfl rfl ?_
      obtain ⟨hk26, h⟩ := ao_some h
      obtain ⟨hb27, h⟩ := ao_some h
      refine an_iaload j25 dX12_doLook_87 hk26 hb27 ?_
      refine ao_iconst (v := 1) dX12_doLook_88 (by decide) ?_
      refine ao_iadd dX12_doLook_89 ?_
      refine an_iastore j25 dX12_doLook_90 hk26 hb27 (fun M28 hM28 => ?_)
      replace h := ao_letD h hM28
      refine ao_iconst (v := 0) dX12_doLook_91 (by decide) ?_
      cases h
      exact ao_ireturn dX12_doLook_92 rfl rfl ⟨rfl, rfl⟩
theorem me_X12_doLook (n : Nat) (r0 : Nat) (x1 : Int32) (x2 : Int32) (M : ao_M) (ρ : ao_H) {y : Int32 × ao_S} (h : gX12_doLook n r0 x1 x2 M ρ = some y) : ao_le ρ y.2.2 := (mX12_doLook n).1 r0 x1 x2 M ρ y h
set_option maxRecDepth 100000 in
set_option maxHeartbeats 4000000 in
theorem aX12_doLook {Γ : ao_C} (d : Nat) (hd : 7 ≤ d) (n : Nat) (r0 : Nat) (x1 : Int32) (x2 : Int32) (M : ao_M) (ρ : ao_H) {y : Int32 × ao_S} (h : gX12_doLook n r0 x1 x2 M ρ = some y) : ao_A Γ uX12_doLook d (ao_dc ρ y.2.2) (ao_ds ρ y.2.2) [.ref (Γ.2.2.2 + r0), .int x1, .int x2] (M, ρ) (ao_QI y) := by
  refine ao_of (by decide) (ao_cat1 (Nat.le_of_ble_eq_true rfl)) (Nat.le_of_ble_eq_true rfl) ?_
  show ao_W Γ uX12_doLook (ao_rm d (ao_dc ρ y.2.2) (ao_ds ρ y.2.2)) (ao_Q Γ (ao_QI y) (ao_dc ρ y.2.2) (ao_ds ρ y.2.2)) (ao_dc ρ y.2.2) (ao_ds ρ y.2.2) 0 [some (.ref (Γ.2.2.2 + r0)), some (.int x1), some (.int x2), none] [] (M, ρ)
  exact (wX12_doLook d hd _ _ n).1 r0 x1 x2 M ρ y h

abbrev uX12_doWrite : ao_Mi := (yX12_doWrite, cX12_doWrite, 5, (some .int), [])
def fX12_doWrite : Nat → Nat → Nat → Int32 → Int32 → Int32 → Int32 →  ao_M → ao_H → Option (Int32 × ao_S)
  | 0, _, _, _, _, _, _, _, _ => none
  | n + 1, pc, r0, x1, x2, x3, s0, M, ρ =>
    if pc = 0 then
      if ρ.2.1 r0 = 22 then
      (gX12_pop r0 x1 M ρ).bind fun p2 =>
      ao_let p2.1 fun v3 =>
      (ρ.1 r0 29).bind fun j4 =>
      if ρ.2.1 j4 = 0 then
      if ¬ (x1 < 0 ∨ ρ.2.2.1 j4 ≤ x1.toNatClampNeg) then
      if (p2.2 j4 x1.toNatClampNeg) = (2 : Int32) then
        (gX12_write n r0 x1 x2 v3 p2.2 ρ).bind fun p9 =>
        fX12_doWrite n 23 r0 x1 x2 v3 p9.1 p9.2.1 p9.2.2
      else
        (gX12_change n r0 x2 v3 p2.2 ρ).bind fun p8 =>
        fX12_doWrite n 34 r0 x1 x2 v3 0 p8.1 p8.2
      else none
      else none
      else none
    else if pc = 23 then
      if s0 = 0 then
        some ((1 : Int32), M, ρ)
      else
        fX12_doWrite n 76 r0 x1 x2 x3 0 M ρ
    else if pc = 34 then
      if ρ.2.1 r0 = 22 then
      (gX12_newRecord n r0 x1 (M r0 65) M ρ).bind fun p12 =>
      ao_let p12.1 fun v13 =>
      if v13 < 0 then
        fX12_doWrite n 76 r0 x1 x2 x3 0 p12.2 ρ
      else
        (ρ.1 r0 75).bind fun j15 =>
        if ρ.2.1 j15 = 2 then
        if ¬ (((v13 * (26 : Int32)) + x2) < 0 ∨ ρ.2.2.1 j15 ≤ ((v13 * (26 : Int32)) + x2).toNatClampNeg) then
        ao_let (ao_u p12.2 j15 ((v13 * (26 : Int32)) + x2).toNatClampNeg (1 : Int32)) fun M18 =>
        (ρ.1 r0 73).bind fun j19 =>
        if ρ.2.1 j19 = 0 then
        if ¬ (((v13 * (26 : Int32)) + x2) < 0 ∨ ρ.2.2.1 j19 ≤ ((v13 * (26 : Int32)) + x2).toNatClampNeg) then
        ao_let (ao_u M18 j19 ((v13 * (26 : Int32)) + x2).toNatClampNeg x3) fun M22 =>
        fX12_doWrite n 76 r0 x1 x2 x3 0 M22 ρ
        else none
        else none
        else none
        else none
      else none
    else if pc = 76 then
      if ρ.2.1 r0 = 22 then
      (ρ.1 r0 30).bind fun j24 =>
      if ρ.2.1 j24 = 0 then
      if ¬ (x1 < 0 ∨ ρ.2.2.1 j24 ≤ x1.toNatClampNeg) then
      ao_let (ao_u M j24 x1.toNatClampNeg ((M j24 x1.toNatClampNeg) + (1 : Int32))) fun M27 =>
      some ((0 : Int32), M27, ρ)
      else none
      else none
      else none
    else none
def gX12_doWrite (n : Nat) (r0 : Nat) (x1 : Int32) (x2 : Int32) (M : ao_M) (ρ : ao_H) : Option (Int32 × ao_S) := fX12_doWrite n 0 r0 x1 x2 0 0 M ρ
set_option maxRecDepth 100000 in
set_option maxHeartbeats 4000000 in
theorem mX12_doWrite : ∀ n : Nat, (∀ (r0 : Nat) (x1 : Int32) (x2 : Int32) (M : ao_M) (ρ : ao_H) (y : Int32 × ao_S), fX12_doWrite n 0 r0 x1 x2 0 0 M ρ = some y → ao_le ρ y.2.2) ∧ (∀ (r0 : Nat) (x1 : Int32) (x2 : Int32) (x3 : Int32) (s0 : Int32) (M : ao_M) (ρ : ao_H) (y : Int32 × ao_S), fX12_doWrite n 23 r0 x1 x2 x3 s0 M ρ = some y → ao_le ρ y.2.2) ∧ (∀ (r0 : Nat) (x1 : Int32) (x2 : Int32) (x3 : Int32) (M : ao_M) (ρ : ao_H) (y : Int32 × ao_S), fX12_doWrite n 34 r0 x1 x2 x3 0 M ρ = some y → ao_le ρ y.2.2) ∧ (∀ (r0 : Nat) (x1 : Int32) (x2 : Int32) (x3 : Int32) (M : ao_M) (ρ : ao_H) (y : Int32 × ao_S), fX12_doWrite n 76 r0 x1 x2 x3 0 M ρ = some y → ao_le ρ y.2.2) := by
  intro n
  induction n with
  | zero => exact ⟨fun _ _ _ _ _ _ h => ao_no h, fun _ _ _ _ _ _ _ _ h => ao_no h, fun _ _ _ _ _ _ _ h => ao_no h, fun _ _ _ _ _ _ _ h => ao_no h⟩
  | succ n ih =>
    refine ⟨?_, ?_, ?_, ?_⟩
    · intro r0 x1 x2 M ρ y h
      replace h := ao_ifT h rfl
      obtain ⟨-, h⟩ := ao_some h
      obtain ⟨p2, hp2, h⟩ := ao_bind h
      replace h := ao_letD h rfl
      generalize p2.1 = v3 at h
      obtain ⟨j4, hj4, h⟩ := ao_bind h
      obtain ⟨-, h⟩ := ao_some h
      obtain ⟨-, h⟩ := ao_some h
      rcases ao_ifC h with h | h
      · obtain ⟨p9, hp9, h⟩ := ao_bind h
        exact ao_le_tr (me_X12_write n r0 x1 x2 v3 p2.2 ρ hp9) (ih.2.1 r0 x1 x2 v3 p9.1 p9.2.1 p9.2.2 _ h)
      · obtain ⟨p8, hp8, h⟩ := ao_bind h
        exact ao_le_tr (me_X12_change n r0 x2 v3 p2.2 ρ hp8) (ih.2.2.1 r0 x1 x2 v3 p8.1 p8.2 _ h)
    · intro r0 x1 x2 x3 s0 M ρ y h
      replace h := ao_ifF h (by decide)
      replace h := ao_ifT h rfl
      rcases ao_ifC h with h | h
      · cases h
        exact ao_le_rf _
      · exact ih.2.2.2 r0 x1 x2 x3 M ρ _ h
    · intro r0 x1 x2 x3 M ρ y h
      replace h := ao_ifF h (by decide)
      replace h := ao_ifF h (by decide)
      replace h := ao_ifT h rfl
      obtain ⟨-, h⟩ := ao_some h
      obtain ⟨p12, hp12, h⟩ := ao_bind h
      replace h := ao_letD h rfl
      generalize p12.1 = v13 at h
      rcases ao_ifC h with h | h
      · exact ih.2.2.2 r0 x1 x2 x3 p12.2 ρ _ h
      · obtain ⟨j15, hj15, h⟩ := ao_bind h
        obtain ⟨-, h⟩ := ao_some h
        obtain ⟨-, h⟩ := ao_some h
        replace h := ao_letD h rfl
        generalize (ao_u p12.2 j15 ((v13 * (26 : Int32)) + x2).toNatClampNeg (1 : Int32)) = M18 at h
        obtain ⟨j19, hj19, h⟩ := ao_bind h
        obtain ⟨-, h⟩ := ao_some h
        obtain ⟨-, h⟩ := ao_some h
        replace h := ao_letD h rfl
        generalize (ao_u M18 j19 ((v13 * (26 : Int32)) + x2).toNatClampNeg x3) = M22 at h
        exact ih.2.2.2 r0 x1 x2 x3 M22 ρ _ h
    · intro r0 x1 x2 x3 M ρ y h
      replace h := ao_ifF h (by decide)
      replace h := ao_ifF h (by decide)
      replace h := ao_ifF h (by decide)
      replace h := ao_ifT h rfl
      obtain ⟨-, h⟩ := ao_some h
      obtain ⟨j24, hj24, h⟩ := ao_bind h
      obtain ⟨-, h⟩ := ao_some h
      obtain ⟨-, h⟩ := ao_some h
      replace h := ao_letD h rfl
      generalize (ao_u M j24 x1.toNatClampNeg ((M j24 x1.toNatClampNeg) + (1 : Int32))) = M27 at h
      cases h
      exact ao_le_rf _
set_option maxRecDepth 100000 in
set_option maxHeartbeats 4000000 in
theorem wX12_doWrite {Γ : ao_C} (d : Nat) (hd : 7 ≤ d) (MC MS : Nat) : ∀ n : Nat, (∀ (r0 : Nat) (x1 : Int32) (x2 : Int32) (M : ao_M) (ρ : ao_H) (y : Int32 × ao_S), fX12_doWrite n 0 r0 x1 x2 0 0 M ρ = some y → ao_W Γ uX12_doWrite (ao_rm d MC MS) (ao_Q Γ (ao_QI y) MC MS) (ao_dc ρ y.2.2) (ao_ds ρ y.2.2) 0 [some (.ref (Γ.2.2.2 + r0)), some (.int x1), some (.int x2), none, none] [] (M, ρ)) ∧ (∀ (r0 : Nat) (x1 : Int32) (x2 : Int32) (x3 : Int32) (s0 : Int32) (M : ao_M) (ρ : ao_H) (y : Int32 × ao_S), fX12_doWrite n 23 r0 x1 x2 x3 s0 M ρ = some y → ao_W Γ uX12_doWrite (ao_rm d MC MS) (ao_Q Γ (ao_QI y) MC MS) (ao_dc ρ y.2.2) (ao_ds ρ y.2.2) 23 [some (.ref (Γ.2.2.2 + r0)), some (.int x1), some (.int x2), some (.int x3), none] [.int s0] (M, ρ)) ∧ (∀ (r0 : Nat) (x1 : Int32) (x2 : Int32) (x3 : Int32) (M : ao_M) (ρ : ao_H) (y : Int32 × ao_S), fX12_doWrite n 34 r0 x1 x2 x3 0 M ρ = some y → ao_W Γ uX12_doWrite (ao_rm d MC MS) (ao_Q Γ (ao_QI y) MC MS) (ao_dc ρ y.2.2) (ao_ds ρ y.2.2) 34 [some (.ref (Γ.2.2.2 + r0)), some (.int x1), some (.int x2), some (.int x3), none] [] (M, ρ)) ∧ (∀ (r0 : Nat) (x1 : Int32) (x2 : Int32) (x3 : Int32) (M : ao_M) (ρ : ao_H) (y : Int32 × ao_S), fX12_doWrite n 76 r0 x1 x2 x3 0 M ρ = some y → ao_W Γ uX12_doWrite (ao_rm d MC MS) (ao_Q Γ (ao_QI y) MC MS) (ao_dc ρ y.2.2) (ao_ds ρ y.2.2) 76 [some (.ref (Γ.2.2.2 + r0)), some (.int x1), some (.int x2), some (.int x3), none] [] (M, ρ)) := by
  intro n
  induction n with
  | zero => exact ⟨fun _ _ _ _ _ _ h => ao_no h, fun _ _ _ _ _ _ _ _ h => ao_no h, fun _ _ _ _ _ _ _ h => ao_no h, fun _ _ _ _ _ _ _ h => ao_no h⟩
  | succ n ih =>
    refine ⟨?_, ?_, ?_, ?_⟩
    · intro r0 x1 x2 M ρ y h
      replace h := ao_ifT h rfl
      refine ao_aload_n 0 dX12_doWrite_0 rfl rfl ?_
      refine ao_iload_n 1 dX12_doWrite_1 rfl rfl ?_
      obtain ⟨hk1, h⟩ := ao_some h
      obtain ⟨p2, hp2, h⟩ := ao_bind h
      refine an_callVi r0 12 (q := (RX12, TX12, 83)) [.int x1] (aX12_pop (d - 1) (by omega) r0 x1 M ρ hp2) dX12_doWrite_2 lc_X12_455 li_X12_pop ls_X12_pop rfl hk1 rfl rfl (Nat.le_of_ble_eq_true rfl) (ao_hR (by omega) (by decide)) ?_
      refine an_topi (fun v3 hv3 => ?_)
      replace h := ao_letD h hv3
      refine ao_istore_n 3 (lo' := [some (.ref (Γ.2.2.2 + r0)), some (.int x1), some (.int x2), some (.int v3), none]) dX12_doWrite_5 rfl (Nat.le_of_ble_eq_true rfl) rfl ?_
      refine ao_aload_n 0 dX12_doWrite_6 rfl rfl ?_
      obtain ⟨j4, hj4, h⟩ := ao_bind h
      refine an_getR r0 12 29 (q := (RX12, TX12, 83)) dX12_doWrite_7 rfl hk1 (Nat.le_of_ble_eq_true rfl) rfl lf_X12_187 hj4 ?_
      refine ao_iload_n 1 dX12_doWrite_10 rfl rfl ?_
      obtain ⟨hk5, h⟩ := ao_some h
      obtain ⟨hb6, h⟩ := ao_some h
      refine an_iaload j4 dX12_doWrite_11 hk5 hb6 ?_
      refine ao_iconst (v := 2) dX12_doWrite_12 (by decide) ?_
      refine ao_icmp_ne 28 dX12_doWrite_13 (by decide) (fun c7 => ?_) (fun c7 => ?_)
      · replace h := ao_ifF h c7
        refine ao_aload_n 0 dX12_doWrite_28 rfl rfl ?_
        refine ao_iload_n 2 dX12_doWrite_29 rfl rfl ?_
        refine ao_iload_n 3 dX12_doWrite_30 rfl rfl ?_
        obtain ⟨p8, hp8, h⟩ := ao_bind h
        refine ba_callVv r0 12 (q := (RX12, TX12, 83)) [.int x2, .int v3] (aX12_change (d - 1) (by omega) n r0 x2 v3 p2.2 ρ hp8) dX12_doWrite_31 lc_X12_485 li_X12_change ls_X12_change rfl hk1 rfl rfl (Nat.le_of_ble_eq_true rfl) (ao_hR (by omega) (by decide)) (ao_leC (me_X12_change n r0 x2 v3 p2.2 ρ hp8) ((mX12_doWrite n).2.2.1 r0 x1 x2 v3 p8.1 p8.2 _ h)) (ao_leS (me_X12_change n r0 x2 v3 p2.2 ρ hp8) ((mX12_doWrite n).2.2.1 r0 x1 x2 v3 p8.1 p8.2 _ h)) ?_
        exact ih.2.2.1 r0 x1 x2 v3 p8.1 p8.2 _ h
      · replace h := ao_ifT h c7
        refine ao_aload_n 0 dX12_doWrite_16 rfl rfl ?_
        refine ao_iload_n 1 dX12_doWrite_17 rfl rfl ?_
        refine ao_iload_n 2 dX12_doWrite_18 rfl rfl ?_
        refine ao_iload_n 3 dX12_doWrite_19 rfl rfl ?_
        obtain ⟨p9, hp9, h⟩ := ao_bind h
        refine ba_callVi r0 12 (q := (RX12, TX12, 83)) [.int x1, .int x2, .int v3] (aX12_write (d - 1) (by omega) n r0 x1 x2 v3 p2.2 ρ hp9) dX12_doWrite_20 lc_X12_482 li_X12_write ls_X12_write rfl hk1 rfl rfl (Nat.le_of_ble_eq_true rfl) (ao_hR (by omega) (by decide)) (ao_leC (me_X12_write n r0 x1 x2 v3 p2.2 ρ hp9) ((mX12_doWrite n).2.1 r0 x1 x2 v3 p9.1 p9.2.1 p9.2.2 _ h)) (ao_leS (me_X12_write n r0 x1 x2 v3 p2.2 ρ hp9) ((mX12_doWrite n).2.1 r0 x1 x2 v3 p9.1 p9.2.1 p9.2.2 _ h)) ?_
        exact ih.2.1 r0 x1 x2 v3 p9.1 p9.2.1 p9.2.2 _ h
    · intro r0 x1 x2 x3 s0 M ρ y h
      replace h := ao_ifF h (by decide)
      replace h := ao_ifT h rfl
      refine ao_if_ne 76 dX12_doWrite_23 (by decide) (fun c10 => ?_) (fun c10 => ?_)
      · replace h := ao_ifF h c10
        exact ih.2.2.2 r0 x1 x2 x3 M ρ _ h
      · replace h := ao_ifT h c10
        refine ao_iconst (v := 1) dX12_doWrite_26 (by decide) ?_
        cases h
        exact ao_ireturn dX12_doWrite_27 rfl rfl ⟨rfl, rfl⟩
    · intro r0 x1 x2 x3 M ρ y h
      replace h := ao_ifF h (by decide)
      replace h := ao_ifF h (by decide)
      replace h := ao_ifT h rfl
      refine ao_aload_n 0 dX12_doWrite_34 rfl rfl ?_
      refine ao_iload_n 1 dX12_doWrite_35 rfl rfl ?_
      refine ao_aload_n 0 dX12_doWrite_36 rfl rfl ?_
      obtain ⟨hk11, h⟩ := ao_some h
      refine an_getI r0 12 65 (q := (RX12, TX12, 83)) dX12_doWrite_37 rfl hk11 (Nat.le_of_ble_eq_true rfl) rfl lf_X12_341 ?_
      obtain ⟨p12, hp12, h⟩ := ao_bind h
      refine an_callVi r0 12 (q := (RX12, TX12, 83)) [.int x1, .int (M r0 65)] (aX12_newRecord (d - 1) (by omega) _ r0 x1 (M r0 65) M ρ hp12) dX12_doWrite_40 lc_X12_425 li_X12_newRecord ls_X12_newRecord rfl hk11 rfl rfl (Nat.le_of_ble_eq_true rfl) (ao_hR (by omega) (by decide)) ?_
      refine an_topi (fun v13 hv13 => ?_)
      replace h := ao_letD h hv13
      refine ao_istore 4 (lo' := [some (.ref (Γ.2.2.2 + r0)), some (.int x1), some (.int x2), some (.int x3), some (.int v13)]) dX12_doWrite_43 (Nat.le_of_ble_eq_true rfl) rfl ?_
      refine ao_iload 4 dX12_doWrite_45 rfl ?_
      refine ao_if_lt 76 dX12_doWrite_47 (by decide) (fun c14 => ?_) (fun c14 => ?_)
      · replace h := ao_ifT h c14
        refine ao_loForget (lo' := [some (.ref (Γ.2.2.2 + r0)), some (.int x1), some (.int x2), some (.int x3), none]) (ao_fgS (ao_fgS (ao_fgS (ao_fgS (ao_fgN ao_fgZ))))) ?_
        exact ih.2.2.2 r0 x1 x2 x3 p12.2 ρ _ h
      · replace h := ao_ifF h c14
        refine ao_aload_n 0 dX12_doWrite_50 rfl rfl ?_
        obtain ⟨j15, hj15, h⟩ := ao_bind h
        refine an_getR r0 12 75 (q := (RX12, TX12, 83)) dX12_doWrite_51 rfl hk11 (Nat.le_of_ble_eq_true rfl) rfl lf_X12_314 hj15 ?_
        refine ao_iload 4 dX12_doWrite_54 rfl ?_
        refine ao_bipush (v := 26) dX12_doWrite_56 (by decide) ?_
        refine ao_imul dX12_doWrite_58 ?_
        refine ao_iload_n 2 dX12_doWrite_59 rfl rfl ?_
        refine ao_iadd dX12_doWrite_60 ?_
        refine ao_iconst (v := 1) dX12_doWrite_61 (by decide) ?_
        obtain ⟨hk16, h⟩ := ao_some h
        obtain ⟨hb17, h⟩ := ao_some h
        refine an_zastore j15 dX12_doWrite_62 hk16 hb17 rfl (fun M18 hM18 => ?_)
        replace h := ao_letD h hM18
        refine ao_aload_n 0 dX12_doWrite_63 rfl rfl ?_
        obtain ⟨j19, hj19, h⟩ := ao_bind h
        refine an_getR r0 12 73 (q := (RX12, TX12, 83)) dX12_doWrite_64 rfl hk11 (Nat.le_of_ble_eq_true rfl) rfl lf_X12_308 hj19 ?_
        refine ao_iload 4 dX12_doWrite_67 rfl ?_
        refine ao_bipush (v := 26) dX12_doWrite_69 (by decide) ?_
        refine ao_imul dX12_doWrite_71 ?_
        refine ao_iload_n 2 dX12_doWrite_72 rfl rfl ?_
        refine ao_iadd dX12_doWrite_73 ?_
        refine ao_iload_n 3 dX12_doWrite_74 rfl rfl ?_
        obtain ⟨hk20, h⟩ := ao_some h
        obtain ⟨hb21, h⟩ := ao_some h
        refine an_iastore j19 dX12_doWrite_75 hk20 hb21 (fun M22 hM22 => ?_)
        replace h := ao_letD h hM22
        refine ao_loForget (lo' := [some (.ref (Γ.2.2.2 + r0)), some (.int x1), some (.int x2), some (.int x3), none]) (ao_fgS (ao_fgS (ao_fgS (ao_fgS (ao_fgN ao_fgZ))))) ?_
        exact ih.2.2.2 r0 x1 x2 x3 M22 ρ _ h
    · intro r0 x1 x2 x3 M ρ y h
      replace h := ao_ifF h (by decide)
      replace h := ao_ifF h (by decide)
      replace h := ao_ifF h (by decide)
      replace h := ao_ifT h rfl
      refine ao_aload_n 0 dX12_doWrite_76 rfl rfl ?_
      obtain ⟨hk23, h⟩ := ao_some h
      obtain ⟨j24, hj24, h⟩ := ao_bind h
      refine an_getR r0 12 30 (q := (RX12, TX12, 83)) dX12_doWrite_77 rfl hk23 (Nat.le_of_ble_eq_true rfl) rfl lf_X12_190 hj24 ?_
      refine ao_iload_n 1 dX12_doWrite_80 rfl rfl ?_
      refine ao_dup2 dX12_doWrite_81 rfl rfl ?_
      obtain ⟨hk25, h⟩ := ao_some h
      obtain ⟨hb26, h⟩ := ao_some h
      refine an_iaload j24 dX12_doWrite_82 hk25 hb26 ?_
      refine ao_iconst (v := 1) dX12_doWrite_83 (by decide) ?_
      refine ao_iadd dX12_doWrite_84 ?_
      refine an_iastore j24 dX12_doWrite_85 hk25 hb26 (fun M27 hM27 => ?_)
      replace h := ao_letD h hM27
      refine ao_iconst (v := 0) dX12_doWrite_86 (by decide) ?_
      cases h
      exact ao_ireturn dX12_doWrite_87 rfl rfl ⟨rfl, rfl⟩
theorem me_X12_doWrite (n : Nat) (r0 : Nat) (x1 : Int32) (x2 : Int32) (M : ao_M) (ρ : ao_H) {y : Int32 × ao_S} (h : gX12_doWrite n r0 x1 x2 M ρ = some y) : ao_le ρ y.2.2 := (mX12_doWrite n).1 r0 x1 x2 M ρ y h
set_option maxRecDepth 100000 in
set_option maxHeartbeats 4000000 in
theorem aX12_doWrite {Γ : ao_C} (d : Nat) (hd : 7 ≤ d) (n : Nat) (r0 : Nat) (x1 : Int32) (x2 : Int32) (M : ao_M) (ρ : ao_H) {y : Int32 × ao_S} (h : gX12_doWrite n r0 x1 x2 M ρ = some y) : ao_A Γ uX12_doWrite d (ao_dc ρ y.2.2) (ao_ds ρ y.2.2) [.ref (Γ.2.2.2 + r0), .int x1, .int x2] (M, ρ) (ao_QI y) := by
  refine ao_of (by decide) (ao_cat1 (Nat.le_of_ble_eq_true rfl)) (Nat.le_of_ble_eq_true rfl) ?_
  show ao_W Γ uX12_doWrite (ao_rm d (ao_dc ρ y.2.2) (ao_ds ρ y.2.2)) (ao_Q Γ (ao_QI y) (ao_dc ρ y.2.2) (ao_ds ρ y.2.2)) (ao_dc ρ y.2.2) (ao_ds ρ y.2.2) 0 [some (.ref (Γ.2.2.2 + r0)), some (.int x1), some (.int x2), none, none] [] (M, ρ)
  exact (wX12_doWrite d hd _ _ n).1 r0 x1 x2 M ρ y h

abbrev uX12_wakes : ao_Mi := (yX12_wakes, cX12_wakes, 4, (some .boolean), [])
def fX12_wakes : Nat → Nat → Nat → Int32 → Int32 → Int32 →  ao_M → ao_H → Option (Int32 × ao_M)
  | 0, _, _, _, _, _, _, _ => none
  | n + 1, pc, r0, x1, x2, x3, M, ρ =>
    if pc = 0 then
      fX12_wakes n 2 r0 x1 (0 : Int32) 0 M ρ
    else if pc = 2 then
      if (26 : Int32) ≤ x2 then
        some ((0 : Int32), M)
      else
        if ρ.2.1 r0 = 22 then
        (gX12_cell r0 x1 (0 : Int32) x2 M ρ).bind fun p3 =>
        ao_let p3.1 fun v4 =>
        (ρ.1 r0 55).bind fun j5 =>
        if ρ.2.1 j5 = 2 then
        if ¬ (v4 < 0 ∨ ρ.2.2.1 j5 ≤ v4.toNatClampNeg) then
        if (p3.2 j5 v4.toNatClampNeg) = 0 then
          fX12_wakes n 58 r0 x1 x2 v4 p3.2 ρ
        else
          (ρ.1 r0 17).bind fun j9 =>
          if ρ.2.1 j9 = 0 then
          if ¬ (x2 < 0 ∨ ρ.2.2.1 j9 ≤ x2.toNatClampNeg) then
          (ρ.1 r0 57).bind fun j12 =>
          if ρ.2.1 j12 = 0 then
          if ¬ (v4 < 0 ∨ ρ.2.2.1 j12 ≤ v4.toNatClampNeg) then
          if (p3.2 j9 x2.toNatClampNeg) = (p3.2 j12 v4.toNatClampNeg) then
            fX12_wakes n 58 r0 x1 x2 v4 p3.2 ρ
          else
            (gX12_isEager n r0 p3.2 ρ).bind fun p16 =>
            if p16.1 = 0 then
              some ((1 : Int32), p16.2)
            else
              (ρ.1 r0 19).bind fun j18 =>
              if ρ.2.1 j18 = 0 then
              if ¬ (x2 < 0 ∨ ρ.2.2.1 j18 ≤ x2.toNatClampNeg) then
              if 0 ≤ (p16.2 j18 x2.toNatClampNeg) then
                fX12_wakes n 58 r0 x1 x2 v4 p16.2 ρ
              else
                some ((1 : Int32), p16.2)
              else none
              else none
          else none
          else none
          else none
          else none
        else none
        else none
        else none
    else if pc = 58 then
      ao_let (x2 + (1 : Int32)) fun v22 =>
      fX12_wakes n 2 r0 x1 v22 0 M ρ
    else none
def gX12_wakes (n : Nat) (r0 : Nat) (x1 : Int32) (M : ao_M) (ρ : ao_H) : Option (Int32 × ao_M) := fX12_wakes n 0 r0 x1 0 0 M ρ
set_option maxRecDepth 100000 in
set_option maxHeartbeats 4000000 in
theorem wX12_wakes {Γ : ao_C} {ρ : ao_H} (d : Nat) (hd : 1 ≤ d) : ∀ n : Nat, (∀ (r0 : Nat) (x1 : Int32) (M : ao_M) (y : Int32 × ao_M), fX12_wakes n 0 r0 x1 0 0 M ρ = some y → ao_W Γ uX12_wakes (ao_rm d 0 0) (ao_Q Γ (ao_PI ρ y) 0 0) 0 0 0 [some (.ref (Γ.2.2.2 + r0)), some (.int x1), none, none] [] (M, ρ)) ∧ (∀ (r0 : Nat) (x1 : Int32) (x2 : Int32) (M : ao_M) (y : Int32 × ao_M), fX12_wakes n 2 r0 x1 x2 0 M ρ = some y → ao_W Γ uX12_wakes (ao_rm d 0 0) (ao_Q Γ (ao_PI ρ y) 0 0) 0 0 2 [some (.ref (Γ.2.2.2 + r0)), some (.int x1), some (.int x2), none] [] (M, ρ)) ∧ (∀ (r0 : Nat) (x1 : Int32) (x2 : Int32) (x3 : Int32) (M : ao_M) (y : Int32 × ao_M), fX12_wakes n 58 r0 x1 x2 x3 M ρ = some y → ao_W Γ uX12_wakes (ao_rm d 0 0) (ao_Q Γ (ao_PI ρ y) 0 0) 0 0 58 [some (.ref (Γ.2.2.2 + r0)), some (.int x1), some (.int x2), some (.int x3)] [] (M, ρ)) := by
  intro n
  induction n with
  | zero => exact ⟨fun _ _ _ _ h => ao_no h, fun _ _ _ _ _ h => ao_no h, fun _ _ _ _ _ _ h => ao_no h⟩
  | succ n ih =>
    refine ⟨?_, ?_, ?_⟩
    · intro r0 x1 M y h
      replace h := ao_ifT h rfl
      refine ao_iconst (v := 0) dX12_wakes_0 (by decide) ?_
      refine ao_istore_n 2 (lo' := [some (.ref (Γ.2.2.2 + r0)), some (.int x1), some (.int (0 : Int32)), none]) dX12_wakes_1 rfl (Nat.le_of_ble_eq_true rfl) rfl ?_
      exact ih.2.1 r0 x1 (0 : Int32) M _ h
    · intro r0 x1 x2 M y h
      replace h := ao_ifF h (by decide)
      replace h := ao_ifT h rfl
      refine ao_iload_n 2 dX12_wakes_2 rfl rfl ?_
      refine ao_bipush (v := 26) dX12_wakes_3 (by decide) ?_
      refine ao_icmp_ge 64 dX12_wakes_5 (by decide) (fun c1 => ?_) (fun c1 => ?_)
      · replace h := ao_ifT h c1
        refine ao_iconst (v := 0) dX12_wakes_64 (by decide) ?_
        cases h
        exact ao_ireturn dX12_wakes_65 rfl rfl ⟨rfl, rfl⟩
      · replace h := ao_ifF h c1
        refine ao_aload_n 0 dX12_wakes_8 rfl rfl ?_
        refine ao_iload_n 1 dX12_wakes_9 rfl rfl ?_
        refine ao_iconst (v := 0) dX12_wakes_10 (by decide) ?_
        refine ao_iload_n 2 dX12_wakes_11 rfl rfl ?_
        obtain ⟨hk2, h⟩ := ao_some h
        obtain ⟨p3, hp3, h⟩ := ao_bind h
        refine an_callVi r0 12 (q := (RX12, TX12, 83)) [.int x1, .int (0 : Int32), .int x2] (aX12_cell (d - 1) (by omega) r0 x1 (0 : Int32) x2 M ρ hp3) dX12_wakes_12 lc_X12_357 li_X12_cell ls_X12_cell rfl hk2 rfl rfl (Nat.le_of_ble_eq_true rfl) (ao_hR (by omega) (by decide)) ?_
        refine an_topi (fun v4 hv4 => ?_)
        replace h := ao_letD h hv4
        refine ao_istore_n 3 (lo' := [some (.ref (Γ.2.2.2 + r0)), some (.int x1), some (.int x2), some (.int v4)]) dX12_wakes_15 rfl (Nat.le_of_ble_eq_true rfl) rfl ?_
        refine ao_aload_n 0 dX12_wakes_16 rfl rfl ?_
        obtain ⟨j5, hj5, h⟩ := ao_bind h
        refine an_getR r0 12 55 (q := (RX12, TX12, 83)) dX12_wakes_17 rfl hk2 (Nat.le_of_ble_eq_true rfl) rfl lf_X12_266 hj5 ?_
        refine ao_iload_n 3 dX12_wakes_20 rfl rfl ?_
        obtain ⟨hk6, h⟩ := ao_some h
        obtain ⟨hb7, h⟩ := ao_some h
        refine an_zaload j5 dX12_wakes_21 hk6 hb7 ?_
        refine ao_if_eq 58 dX12_wakes_22 (by decide) (fun c8 => ?_) (fun c8 => ?_)
        · replace h := ao_ifT h c8
          exact ih.2.2 r0 x1 x2 v4 p3.2 _ h
        · replace h := ao_ifF h c8
          refine ao_aload_n 0 dX12_wakes_25 rfl rfl ?_
          obtain ⟨j9, hj9, h⟩ := ao_bind h
          refine an_getR r0 12 17 (q := (RX12, TX12, 83)) dX12_wakes_26 rfl hk2 (Nat.le_of_ble_eq_true rfl) rfl lf_X12_151 hj9 ?_
          refine ao_iload_n 2 dX12_wakes_29 rfl rfl ?_
          obtain ⟨hk10, h⟩ := ao_some h
          obtain ⟨hb11, h⟩ := ao_some h
          refine an_iaload j9 dX12_wakes_30 hk10 hb11 ?_
          refine ao_aload_n 0 dX12_wakes_31 rfl rfl ?_
          obtain ⟨j12, hj12, h⟩ := ao_bind h
          refine an_getR r0 12 57 (q := (RX12, TX12, 83)) dX12_wakes_32 rfl hk2 (Nat.le_of_ble_eq_true rfl) rfl lf_X12_272 hj12 ?_
          refine ao_iload_n 3 dX12_wakes_35 rfl rfl ?_
          obtain ⟨hk13, h⟩ := ao_some h
          obtain ⟨hb14, h⟩ := ao_some h
          refine an_iaload j12 dX12_wakes_36 hk13 hb14 ?_
          refine ao_icmp_eq 58 dX12_wakes_37 (by decide) (fun c15 => ?_) (fun c15 => ?_)
          · replace h := ao_ifT h c15
            exact ih.2.2 r0 x1 x2 v4 p3.2 _ h
          · replace h := ao_ifF h c15
            refine ao_aload_n 0 dX12_wakes_40 rfl rfl ?_
            obtain ⟨p16, hp16, h⟩ := ao_bind h
            refine an_callVi r0 12 (q := (RX12, TX12, 83)) [] (aX12_isEager (d - 1) (by omega) _ r0 p3.2 ρ hp16) dX12_wakes_41 lc_X12_369 li_X12_isEager ls_X12_isEager rfl hk2 rfl rfl (Nat.le_of_ble_eq_true rfl) (ao_hR (by omega) (by decide)) ?_
            refine ao_if_eq 56 dX12_wakes_44 (by decide) (fun c17 => ?_) (fun c17 => ?_)
            · replace h := ao_ifT h c17
              refine ao_iconst (v := 1) dX12_wakes_56 (by decide) ?_
              cases h
              exact ao_ireturn dX12_wakes_57 rfl rfl ⟨rfl, rfl⟩
            · replace h := ao_ifF h c17
              refine ao_aload_n 0 dX12_wakes_47 rfl rfl ?_
              obtain ⟨j18, hj18, h⟩ := ao_bind h
              refine an_getR r0 12 19 (q := (RX12, TX12, 83)) dX12_wakes_48 rfl hk2 (Nat.le_of_ble_eq_true rfl) rfl lf_X12_177 hj18 ?_
              refine ao_iload_n 2 dX12_wakes_51 rfl rfl ?_
              obtain ⟨hk19, h⟩ := ao_some h
              obtain ⟨hb20, h⟩ := ao_some h
              refine an_iaload j18 dX12_wakes_52 hk19 hb20 ?_
              refine ao_if_ge 58 dX12_wakes_53 (by decide) (fun c21 => ?_) (fun c21 => ?_)
              · replace h := ao_ifT h c21
                exact ih.2.2 r0 x1 x2 v4 p16.2 _ h
              · replace h := ao_ifF h c21
                refine ao_iconst (v := 1) dX12_wakes_56 (by decide) ?_
                cases h
                exact ao_ireturn dX12_wakes_57 rfl rfl ⟨rfl, rfl⟩
    · intro r0 x1 x2 x3 M y h
      replace h := ao_ifF h (by decide)
      replace h := ao_ifF h (by decide)
      replace h := ao_ifT h rfl
      obtain ⟨v22, hv22⟩ : ∃ z : Int32, z = x2 + (1 : Int32) := ⟨_, rfl⟩
      replace h := ao_letD h hv22
      refine ao_iinc 2 (v := v22) (lo' := [some (.ref (Γ.2.2.2 + r0)), some (.int x1), some (.int v22), some (.int x3)]) dX12_wakes_58 rfl (by rw [hv22]; rfl) (Nat.le_of_ble_eq_true rfl) rfl ?_
      refine ao_goto 2 dX12_wakes_61 (by decide) ?_
      refine ao_loForget (lo' := [some (.ref (Γ.2.2.2 + r0)), some (.int x1), some (.int v22), none]) (ao_fgS (ao_fgS (ao_fgS (ao_fgN ao_fgZ)))) ?_
      exact ih.2.1 r0 x1 v22 M _ h
set_option maxRecDepth 100000 in
set_option maxHeartbeats 4000000 in
theorem aX12_wakes {Γ : ao_C} (d : Nat) (hd : 1 ≤ d) (n : Nat) (r0 : Nat) (x1 : Int32) (M : ao_M) (ρ : ao_H) {y : Int32 × ao_M} (h : gX12_wakes n r0 x1 M ρ = some y) : ao_A Γ uX12_wakes d 0 0 [.ref (Γ.2.2.2 + r0), .int x1] (M, ρ) (ao_PI ρ y) := by
  refine ao_of (by decide) (ao_cat1 (Nat.le_of_ble_eq_true rfl)) (Nat.le_of_ble_eq_true rfl) ?_
  show ao_W Γ uX12_wakes (ao_rm d 0 0) (ao_Q Γ (ao_PI ρ y) 0 0) 0 0 0 [some (.ref (Γ.2.2.2 + r0)), some (.int x1), none, none] [] (M, ρ)
  exact (wX12_wakes d hd n).1 r0 x1 M y h

abbrev uX12_four : ao_Mi := (yX12_four, cX12_four, 3, none, [])
def fX12_four : Nat → Nat → Nat → Int32 → Int32 →  ao_M → ao_H → Option (ao_M)
  | 0, _, _, _, _, _, _ => none
  | n + 1, pc, r0, x1, x2, M, ρ =>
    if pc = 0 then
      fX12_four n 3 r0 x1 (24 : Int32) M ρ
    else if pc = 3 then
      if x2 < 0 then
        some M
      else
        if ρ.2.1 r0 = 22 then
        (ρ.1 r0 4).bind fun j3 =>
        if ρ.2.1 j3 = 1 then
        if ¬ ((M r0 6) < 0 ∨ ρ.2.2.1 j3 ≤ (M r0 6).toNatClampNeg) then
        ao_let (ao_u M j3 (M r0 6).toNatClampNeg (((x1 >>> (x2 &&& 31)).toInt8.toInt32).toInt8.toInt32)) fun M6 =>
        ao_let (ao_u M6 r0 6 ((M6 r0 6) + (1 : Int32))) fun M7 =>
        ao_let (x2 + (-8 : Int32)) fun v8 =>
        fX12_four n 3 r0 x1 v8 M7 ρ
        else none
        else none
        else none
    else none
def gX12_four (n : Nat) (r0 : Nat) (x1 : Int32) (M : ao_M) (ρ : ao_H) : Option (ao_M) := fX12_four n 0 r0 x1 0 M ρ
set_option maxRecDepth 100000 in
set_option maxHeartbeats 4000000 in
theorem wX12_four {Γ : ao_C} {ρ : ao_H} (d : Nat) (hd : 0 ≤ d) : ∀ n : Nat, (∀ (r0 : Nat) (x1 : Int32) (M : ao_M) (y : ao_M), fX12_four n 0 r0 x1 0 M ρ = some y → ao_W Γ uX12_four (ao_rm d 0 0) (ao_Q Γ (ao_PV ρ y) 0 0) 0 0 0 [some (.ref (Γ.2.2.2 + r0)), some (.int x1), none] [] (M, ρ)) ∧ (∀ (r0 : Nat) (x1 : Int32) (x2 : Int32) (M : ao_M) (y : ao_M), fX12_four n 3 r0 x1 x2 M ρ = some y → ao_W Γ uX12_four (ao_rm d 0 0) (ao_Q Γ (ao_PV ρ y) 0 0) 0 0 3 [some (.ref (Γ.2.2.2 + r0)), some (.int x1), some (.int x2)] [] (M, ρ)) := by
  intro n
  induction n with
  | zero => exact ⟨fun _ _ _ _ h => ao_no h, fun _ _ _ _ _ h => ao_no h⟩
  | succ n ih =>
    refine ⟨?_, ?_⟩
    · intro r0 x1 M y h
      replace h := ao_ifT h rfl
      refine ao_bipush (v := 24) dX12_four_0 (by decide) ?_
      refine ao_istore_n 2 (lo' := [some (.ref (Γ.2.2.2 + r0)), some (.int x1), some (.int (24 : Int32))]) dX12_four_2 rfl (Nat.le_of_ble_eq_true rfl) rfl ?_
      exact ih.2 r0 x1 (24 : Int32) M _ h
    · intro r0 x1 x2 M y h
      replace h := ao_ifF h (by decide)
      replace h := ao_ifT h rfl
      refine ao_iload_n 2 dX12_four_3 rfl rfl ?_
      refine ao_if_lt 36 dX12_four_4 (by decide) (fun c1 => ?_) (fun c1 => ?_)
      · replace h := ao_ifT h c1
        cases h
        exact ao_return dX12_four_36 rfl ⟨rfl, rfl⟩
      · replace h := ao_ifF h c1
        refine ao_aload_n 0 dX12_four_7 rfl rfl ?_
        obtain ⟨hk2, h⟩ := ao_some h
        obtain ⟨j3, hj3, h⟩ := ao_bind h
        refine an_getR r0 12 4 (q := (RX12, TX12, 83)) dX12_four_8 rfl hk2 (Nat.le_of_ble_eq_true rfl) rfl lf_X12_174 hj3 ?_
        refine ao_aload_n 0 dX12_four_11 rfl rfl ?_
        refine an_getI r0 12 6 (q := (RX12, TX12, 83)) dX12_four_12 rfl hk2 (Nat.le_of_ble_eq_true rfl) rfl lf_X12_494 ?_
        refine ao_iload_n 1 dX12_four_15 rfl rfl ?_
        refine ao_iload_n 2 dX12_four_16 rfl rfl ?_
        refine ao_ishr dX12_four_17 ?_
        refine ao_i2b dX12_four_18 ?_
        obtain ⟨hk4, h⟩ := ao_some h
        obtain ⟨hb5, h⟩ := ao_some h
        refine an_bastore j3 dX12_four_19 hk4 hb5 (fun M6 hM6 => ?_)
        replace h := ao_letD h hM6
        refine ao_aload_n 0 dX12_four_20 rfl rfl ?_
        refine ao_dup dX12_four_21 rfl ?_
        refine an_getI r0 12 6 (q := (RX12, TX12, 83)) dX12_four_22 rfl hk2 (Nat.le_of_ble_eq_true rfl) rfl lf_X12_494 ?_
        refine ao_iconst (v := 1) dX12_four_25 (by decide) ?_
        refine ao_iadd dX12_four_26 ?_
        refine an_putI r0 12 6 (q := (RX12, TX12, 83)) dX12_four_27 rfl hk2 (Nat.le_of_ble_eq_true rfl) lf_X12_494 rfl rfl rfl rfl (fun M7 hM7 => ?_)
        replace h := ao_letD h hM7
        obtain ⟨v8, hv8⟩ : ∃ z : Int32, z = x2 + (-8 : Int32) := ⟨_, rfl⟩
        replace h := ao_letD h hv8
        refine ao_iinc 2 (v := v8) (lo' := [some (.ref (Γ.2.2.2 + r0)), some (.int x1), some (.int v8)]) dX12_four_30 rfl (by rw [hv8]; rfl) (Nat.le_of_ble_eq_true rfl) rfl ?_
        refine ao_goto 3 dX12_four_33 (by decide) ?_
        exact ih.2 r0 x1 v8 M7 _ h
set_option maxRecDepth 100000 in
set_option maxHeartbeats 4000000 in
theorem aX12_four {Γ : ao_C} (d : Nat) (hd : 0 ≤ d) (n : Nat) (r0 : Nat) (x1 : Int32) (M : ao_M) (ρ : ao_H) {y : ao_M} (h : gX12_four n r0 x1 M ρ = some y) : ao_A Γ uX12_four d 0 0 [.ref (Γ.2.2.2 + r0), .int x1] (M, ρ) (ao_PV ρ y) := by
  refine ao_of (by decide) (ao_cat1 (Nat.le_of_ble_eq_true rfl)) (Nat.le_of_ble_eq_true rfl) ?_
  show ao_W Γ uX12_four (ao_rm d 0 0) (ao_Q Γ (ao_PV ρ y) 0 0) 0 0 0 [some (.ref (Γ.2.2.2 + r0)), some (.int x1), none] [] (M, ρ)
  exact (wX12_four d hd n).1 r0 x1 M y h

abbrev uX12_end : ao_Mi := (yX12_end, cX12_end, 2, (some .int), [])
def fX12_end : Nat → Nat → Nat → Int32 → Nat → Int32 → Nat →  ao_M → ao_H → Option (Int32 × ao_M)
  | 0, _, _, _, _, _, _, _, _ => none
  | n + 1, pc, r0, x1, q0, s0, q1, M, ρ =>
    if pc = 0 then
      if x1 < 0 then
        fX12_end n 13 r0 x1 r0 0 0 M ρ
      else
        if ρ.2.1 r0 = 22 then
        if x1 ≤ (M r0 6) then
          fX12_end n 18 r0 x1 0 (0 : Int32) r0 M ρ
        else
          fX12_end n 13 r0 x1 r0 0 0 M ρ
        else none
    else if pc = 13 then
      fX12_end n 18 r0 x1 0 (1 : Int32) q0 M ρ
    else if pc = 18 then
      if ρ.2.1 q1 = 22 then
      (gX12_fails q1 s0 M ρ).bind fun p5 =>
      if p5.1 = 0 then
        if ρ.2.1 r0 = 22 then
        ao_let (ao_u p5.2 r0 6 x1) fun M8 =>
        some (x1, M8)
        else none
      else
        some ((0 : Int32), p5.2)
      else none
    else none
def gX12_end (n : Nat) (r0 : Nat) (x1 : Int32) (M : ao_M) (ρ : ao_H) : Option (Int32 × ao_M) := fX12_end n 0 r0 x1 0 0 0 M ρ
set_option maxRecDepth 100000 in
set_option maxHeartbeats 4000000 in
theorem wX12_end {Γ : ao_C} {ρ : ao_H} (d : Nat) (hd : 1 ≤ d) : ∀ n : Nat, (∀ (r0 : Nat) (x1 : Int32) (M : ao_M) (y : Int32 × ao_M), fX12_end n 0 r0 x1 0 0 0 M ρ = some y → ao_W Γ uX12_end (ao_rm d 0 0) (ao_Q Γ (ao_PI ρ y) 0 0) 0 0 0 [some (.ref (Γ.2.2.2 + r0)), some (.int x1)] [] (M, ρ)) ∧ (∀ (r0 : Nat) (x1 : Int32) (q0 : Nat) (M : ao_M) (y : Int32 × ao_M), fX12_end n 13 r0 x1 q0 0 0 M ρ = some y → ao_W Γ uX12_end (ao_rm d 0 0) (ao_Q Γ (ao_PI ρ y) 0 0) 0 0 13 [some (.ref (Γ.2.2.2 + r0)), some (.int x1)] [.ref (Γ.2.2.2 + q0)] (M, ρ)) ∧ (∀ (r0 : Nat) (x1 : Int32) (s0 : Int32) (q1 : Nat) (M : ao_M) (y : Int32 × ao_M), fX12_end n 18 r0 x1 0 s0 q1 M ρ = some y → ao_W Γ uX12_end (ao_rm d 0 0) (ao_Q Γ (ao_PI ρ y) 0 0) 0 0 18 [some (.ref (Γ.2.2.2 + r0)), some (.int x1)] [.int s0, .ref (Γ.2.2.2 + q1)] (M, ρ)) := by
  intro n
  induction n with
  | zero => exact ⟨fun _ _ _ _ h => ao_no h, fun _ _ _ _ _ h => ao_no h, fun _ _ _ _ _ _ h => ao_no h⟩
  | succ n ih =>
    refine ⟨?_, ?_, ?_⟩
    · intro r0 x1 M y h
      replace h := ao_ifT h rfl
      refine ao_aload_n 0 dX12_end_0 rfl rfl ?_
      refine ao_iload_n 1 dX12_end_1 rfl rfl ?_
      refine ao_if_lt 13 dX12_end_2 (by decide) (fun c1 => ?_) (fun c1 => ?_)
      · replace h := ao_ifT h c1
        exact ih.2.1 r0 x1 r0 M _ h
      · replace h := ao_ifF h c1
        refine ao_iload_n 1 dX12_end_5 rfl rfl ?_
        refine ao_aload_n 0 dX12_end_6 rfl rfl ?_
        obtain ⟨hk2, h⟩ := ao_some h
        refine an_getI r0 12 6 (q := (RX12, TX12, 83)) dX12_end_7 rfl hk2 (Nat.le_of_ble_eq_true rfl) rfl lf_X12_494 ?_
        refine ao_icmp_le 17 dX12_end_10 (by decide) (fun c3 => ?_) (fun c3 => ?_)
        · replace h := ao_ifT h c3
          refine ao_iconst (v := 0) dX12_end_17 (by decide) ?_
          exact ih.2.2 r0 x1 (0 : Int32) r0 M _ h
        · replace h := ao_ifF h c3
          exact ih.2.1 r0 x1 r0 M _ h
    · intro r0 x1 q0 M y h
      replace h := ao_ifF h (by decide)
      replace h := ao_ifT h rfl
      refine ao_iconst (v := 1) dX12_end_13 (by decide) ?_
      refine ao_goto 18 dX12_end_14 (by decide) ?_
      exact ih.2.2 r0 x1 (1 : Int32) q0 M _ h
    · intro r0 x1 s0 q1 M y h
      replace h := ao_ifF h (by decide)
      replace h := ao_ifF h (by decide)
      replace h := ao_ifT h rfl
      obtain ⟨hk4, h⟩ := ao_some h
      obtain ⟨p5, hp5, h⟩ := ao_bind h
      refine an_callVi q1 12 (q := (RX12, TX12, 83)) [.int s0] (aX12_fails (d - 1) (by omega) q1 s0 M ρ hp5) dX12_end_18 lc_X12_497 li_X12_fails ls_X12_fails rfl hk4 rfl rfl (Nat.le_of_ble_eq_true rfl) (ao_hR (by omega) (by decide)) ?_
      refine ao_if_eq 26 dX12_end_21 (by decide) (fun c6 => ?_) (fun c6 => ?_)
      · replace h := ao_ifT h c6
        refine ao_aload_n 0 dX12_end_26 rfl rfl ?_
        refine ao_iload_n 1 dX12_end_27 rfl rfl ?_
        obtain ⟨hk7, h⟩ := ao_some h
        refine an_putI r0 12 6 (q := (RX12, TX12, 83)) dX12_end_28 rfl hk7 (Nat.le_of_ble_eq_true rfl) lf_X12_494 rfl rfl rfl rfl (fun M8 hM8 => ?_)
        replace h := ao_letD h hM8
        refine ao_iload_n 1 dX12_end_31 rfl rfl ?_
        cases h
        exact ao_ireturn dX12_end_32 rfl rfl ⟨rfl, rfl⟩
      · replace h := ao_ifF h c6
        refine ao_iconst (v := 0) dX12_end_24 (by decide) ?_
        cases h
        exact ao_ireturn dX12_end_25 rfl rfl ⟨rfl, rfl⟩
set_option maxRecDepth 100000 in
set_option maxHeartbeats 4000000 in
theorem aX12_end {Γ : ao_C} (d : Nat) (hd : 1 ≤ d) (n : Nat) (r0 : Nat) (x1 : Int32) (M : ao_M) (ρ : ao_H) {y : Int32 × ao_M} (h : gX12_end n r0 x1 M ρ = some y) : ao_A Γ uX12_end d 0 0 [.ref (Γ.2.2.2 + r0), .int x1] (M, ρ) (ao_PI ρ y) := by
  refine ao_of (by decide) (ao_cat1 (Nat.le_of_ble_eq_true rfl)) (Nat.le_of_ble_eq_true rfl) ?_
  show ao_W Γ uX12_end (ao_rm d 0 0) (ao_Q Γ (ao_PI ρ y) 0 0) 0 0 0 [some (.ref (Γ.2.2.2 + r0)), some (.int x1)] [] (M, ρ)
  exact (wX12_end d hd n).1 r0 x1 M y h

abbrev uX12_isThread : ao_Mi := (yX12_isThread, cX12_isThread, 1, (some .boolean), [])
def gX12_isThread (x0 : Int32) (M : ao_M) (ρ : ao_H) : Option (Int32 × ao_M) :=
  if x0 < 0 then
    some ((0 : Int32), M)
  else
    if (6 : Int32) ≤ x0 then
      some ((0 : Int32), M)
    else
      some ((1 : Int32), M)
set_option maxRecDepth 100000 in
set_option maxHeartbeats 4000000 in
theorem aX12_isThread {Γ : ao_C} (d : Nat) (hd : 0 ≤ d) (x0 : Int32) (M : ao_M) (ρ : ao_H) {y : Int32 × ao_M} (h : gX12_isThread x0 M ρ = some y) : ao_A Γ uX12_isThread d 0 0 [.int x0] (M, ρ) (ao_PI ρ y) := by
  refine ao_of (by decide) (ao_cat1 (Nat.le_of_ble_eq_true rfl)) (Nat.le_of_ble_eq_true rfl) ?_
  show ao_W Γ uX12_isThread (ao_rm d 0 0) (ao_Q Γ (ao_PI ρ y) 0 0) 0 0 0 [some (.int x0)] [] (M, ρ)
  unfold gX12_isThread at h
  refine ao_iload_n 0 dX12_isThread_0 rfl rfl ?_
  refine ao_if_lt 14 dX12_isThread_1 (by decide) (fun c1 => ?_) (fun c1 => ?_)
  · replace h := ao_ifT h c1
    refine ao_iconst (v := 0) dX12_isThread_14 (by decide) ?_
    cases h
    exact ao_ireturn dX12_isThread_15 rfl rfl ⟨rfl, rfl⟩
  · replace h := ao_ifF h c1
    refine ao_iload_n 0 dX12_isThread_4 rfl rfl ?_
    refine ao_bipush (v := 6) dX12_isThread_5 (by decide) ?_
    refine ao_icmp_ge 14 dX12_isThread_7 (by decide) (fun c2 => ?_) (fun c2 => ?_)
    · replace h := ao_ifT h c2
      refine ao_iconst (v := 0) dX12_isThread_14 (by decide) ?_
      cases h
      exact ao_ireturn dX12_isThread_15 rfl rfl ⟨rfl, rfl⟩
    · replace h := ao_ifF h c2
      refine ao_iconst (v := 1) dX12_isThread_10 (by decide) ?_
      refine ao_goto 15 dX12_isThread_11 (by decide) ?_
      cases h
      exact ao_ireturn dX12_isThread_15 rfl rfl ⟨rfl, rfl⟩

abbrev uX12_isPlace : ao_Mi := (yX12_isPlace, cX12_isPlace, 1, (some .boolean), [])
def gX12_isPlace (x0 : Int32) (M : ao_M) (ρ : ao_H) : Option (Int32 × ao_M) :=
  if x0 < 0 then
    some ((0 : Int32), M)
  else
    if (26 : Int32) ≤ x0 then
      some ((0 : Int32), M)
    else
      some ((1 : Int32), M)
set_option maxRecDepth 100000 in
set_option maxHeartbeats 4000000 in
theorem aX12_isPlace {Γ : ao_C} (d : Nat) (hd : 0 ≤ d) (x0 : Int32) (M : ao_M) (ρ : ao_H) {y : Int32 × ao_M} (h : gX12_isPlace x0 M ρ = some y) : ao_A Γ uX12_isPlace d 0 0 [.int x0] (M, ρ) (ao_PI ρ y) := by
  refine ao_of (by decide) (ao_cat1 (Nat.le_of_ble_eq_true rfl)) (Nat.le_of_ble_eq_true rfl) ?_
  show ao_W Γ uX12_isPlace (ao_rm d 0 0) (ao_Q Γ (ao_PI ρ y) 0 0) 0 0 0 [some (.int x0)] [] (M, ρ)
  unfold gX12_isPlace at h
  refine ao_iload_n 0 dX12_isPlace_0 rfl rfl ?_
  refine ao_if_lt 14 dX12_isPlace_1 (by decide) (fun c1 => ?_) (fun c1 => ?_)
  · replace h := ao_ifT h c1
    refine ao_iconst (v := 0) dX12_isPlace_14 (by decide) ?_
    cases h
    exact ao_ireturn dX12_isPlace_15 rfl rfl ⟨rfl, rfl⟩
  · replace h := ao_ifF h c1
    refine ao_iload_n 0 dX12_isPlace_4 rfl rfl ?_
    refine ao_bipush (v := 26) dX12_isPlace_5 (by decide) ?_
    refine ao_icmp_ge 14 dX12_isPlace_7 (by decide) (fun c2 => ?_) (fun c2 => ?_)
    · replace h := ao_ifT h c2
      refine ao_iconst (v := 0) dX12_isPlace_14 (by decide) ?_
      cases h
      exact ao_ireturn dX12_isPlace_15 rfl rfl ⟨rfl, rfl⟩
    · replace h := ao_ifF h c2
      refine ao_iconst (v := 1) dX12_isPlace_10 (by decide) ?_
      refine ao_goto 15 dX12_isPlace_11 (by decide) ?_
      cases h
      exact ao_ireturn dX12_isPlace_15 rfl rfl ⟨rfl, rfl⟩

abbrev uX12_place : ao_Mi := (yX12_place, cX12_place, 1, (some .int), [])
def gX12_place (r0 : Nat) (M : ao_M) (ρ : ao_H) : Option (Int32 × ao_M) :=
  if ρ.2.1 r0 = 22 then
  ao_let (ao_u M r0 0 (0 : Int32)) fun M2 =>
  some ((M2 r0 3), M2)
  else none
set_option maxRecDepth 100000 in
set_option maxHeartbeats 4000000 in
theorem aX12_place {Γ : ao_C} (d : Nat) (hd : 0 ≤ d) (r0 : Nat) (M : ao_M) (ρ : ao_H) {y : Int32 × ao_M} (h : gX12_place r0 M ρ = some y) : ao_A Γ uX12_place d 0 0 [.ref (Γ.2.2.2 + r0)] (M, ρ) (ao_PI ρ y) := by
  refine ao_of (by decide) (ao_cat1 (Nat.le_of_ble_eq_true rfl)) (Nat.le_of_ble_eq_true rfl) ?_
  show ao_W Γ uX12_place (ao_rm d 0 0) (ao_Q Γ (ao_PI ρ y) 0 0) 0 0 0 [some (.ref (Γ.2.2.2 + r0))] [] (M, ρ)
  unfold gX12_place at h
  refine ao_aload_n 0 dX12_place_0 rfl rfl ?_
  refine ao_iconst (v := 0) dX12_place_1 (by decide) ?_
  obtain ⟨hk1, h⟩ := ao_some h
  refine an_putI r0 12 0 (q := (RX12, TX12, 83)) dX12_place_2 rfl hk1 (Nat.le_of_ble_eq_true rfl) lf_X12_1 rfl rfl rfl rfl (fun M2 hM2 => ?_)
  replace h := ao_letD h hM2
  refine ao_aload_n 0 dX12_place_5 rfl rfl ?_
  refine an_getI r0 12 3 (q := (RX12, TX12, 83)) dX12_place_6 rfl hk1 (Nat.le_of_ble_eq_true rfl) rfl lf_X12_171 ?_
  cases h
  exact ao_ireturn dX12_place_9 rfl rfl ⟨rfl, rfl⟩

abbrev uX12_put : ao_Mi := (yX12_put, cX12_put, 3, (some .int), [])
def fX12_put : Nat → Nat → Nat → Int32 → Int32 → Int32 → Nat →  ao_M → ao_H → Option (Int32 × ao_S)
  | 0, _, _, _, _, _, _, _, _ => none
  | n + 1, pc, r0, x1, x2, s0, q1, M, ρ =>
    if pc = 0 then
      (gX12_isPlace x1 M ρ).bind fun p1 =>
      if p1.1 = 0 then
        fX12_put n 26 r0 x1 x2 (1 : Int32) r0 p1.2 ρ
      else
        if ρ.2.1 r0 = 22 then
        (ρ.1 r0 19).bind fun j4 =>
        if ρ.2.1 j4 = 0 then
        if ¬ (x1 < 0 ∨ ρ.2.2.1 j4 ≤ x1.toNatClampNeg) then
        if (p1.2 j4 x1.toNatClampNeg) < 0 then
          fX12_put n 26 r0 x1 x2 (0 : Int32) r0 p1.2 ρ
        else
          fX12_put n 26 r0 x1 x2 (2 : Int32) r0 p1.2 ρ
        else none
        else none
        else none
    else if pc = 26 then
      if ρ.2.1 q1 = 22 then
      (gX12_fails q1 s0 M ρ).bind fun p9 =>
      if p9.1 = 0 then
        if ρ.2.1 r0 = 22 then
        (gX12_change n r0 x1 x2 p9.2 ρ).bind fun p12 =>
        fX12_put n 40 r0 x1 x2 0 0 p12.1 p12.2
        else none
      else
        some ((0 : Int32), p9.2, ρ)
      else none
    else if pc = 40 then
      if ρ.2.1 r0 = 22 then
      (ρ.1 r0 20).bind fun j14 =>
      if ρ.2.1 j14 = 0 then
      if ¬ (x1 < 0 ∨ ρ.2.2.1 j14 ≤ x1.toNatClampNeg) then
      ao_let (ao_u M j14 x1.toNatClampNeg x2) fun M17 =>
      some ((M17 r0 26), M17, ρ)
      else none
      else none
      else none
    else none
def gX12_put (n : Nat) (r0 : Nat) (x1 : Int32) (x2 : Int32) (M : ao_M) (ρ : ao_H) : Option (Int32 × ao_S) := fX12_put n 0 r0 x1 x2 0 0 M ρ
set_option maxRecDepth 100000 in
set_option maxHeartbeats 4000000 in
theorem mX12_put : ∀ n : Nat, (∀ (r0 : Nat) (x1 : Int32) (x2 : Int32) (M : ao_M) (ρ : ao_H) (y : Int32 × ao_S), fX12_put n 0 r0 x1 x2 0 0 M ρ = some y → ao_le ρ y.2.2) ∧ (∀ (r0 : Nat) (x1 : Int32) (x2 : Int32) (s0 : Int32) (q1 : Nat) (M : ao_M) (ρ : ao_H) (y : Int32 × ao_S), fX12_put n 26 r0 x1 x2 s0 q1 M ρ = some y → ao_le ρ y.2.2) ∧ (∀ (r0 : Nat) (x1 : Int32) (x2 : Int32) (M : ao_M) (ρ : ao_H) (y : Int32 × ao_S), fX12_put n 40 r0 x1 x2 0 0 M ρ = some y → ao_le ρ y.2.2) := by
  intro n
  induction n with
  | zero => exact ⟨fun _ _ _ _ _ _ h => ao_no h, fun _ _ _ _ _ _ _ _ h => ao_no h, fun _ _ _ _ _ _ h => ao_no h⟩
  | succ n ih =>
    refine ⟨?_, ?_, ?_⟩
    · intro r0 x1 x2 M ρ y h
      replace h := ao_ifT h rfl
      obtain ⟨p1, hp1, h⟩ := ao_bind h
      rcases ao_ifC h with h | h
      · exact ih.2.1 r0 x1 x2 (1 : Int32) r0 p1.2 ρ _ h
      · obtain ⟨-, h⟩ := ao_some h
        obtain ⟨j4, hj4, h⟩ := ao_bind h
        obtain ⟨-, h⟩ := ao_some h
        obtain ⟨-, h⟩ := ao_some h
        rcases ao_ifC h with h | h
        · exact ih.2.1 r0 x1 x2 (0 : Int32) r0 p1.2 ρ _ h
        · exact ih.2.1 r0 x1 x2 (2 : Int32) r0 p1.2 ρ _ h
    · intro r0 x1 x2 s0 q1 M ρ y h
      replace h := ao_ifF h (by decide)
      replace h := ao_ifT h rfl
      obtain ⟨-, h⟩ := ao_some h
      obtain ⟨p9, hp9, h⟩ := ao_bind h
      rcases ao_ifC h with h | h
      · obtain ⟨-, h⟩ := ao_some h
        obtain ⟨p12, hp12, h⟩ := ao_bind h
        exact ao_le_tr (me_X12_change n r0 x1 x2 p9.2 ρ hp12) (ih.2.2 r0 x1 x2 p12.1 p12.2 _ h)
      · cases h
        exact ao_le_rf _
    · intro r0 x1 x2 M ρ y h
      replace h := ao_ifF h (by decide)
      replace h := ao_ifF h (by decide)
      replace h := ao_ifT h rfl
      obtain ⟨-, h⟩ := ao_some h
      obtain ⟨j14, hj14, h⟩ := ao_bind h
      obtain ⟨-, h⟩ := ao_some h
      obtain ⟨-, h⟩ := ao_some h
      replace h := ao_letD h rfl
      generalize (ao_u M j14 x1.toNatClampNeg x2) = M17 at h
      cases h
      exact ao_le_rf _
set_option maxRecDepth 100000 in
set_option maxHeartbeats 4000000 in
theorem wX12_put {Γ : ao_C} (d : Nat) (hd : 3 ≤ d) (MC MS : Nat) : ∀ n : Nat, (∀ (r0 : Nat) (x1 : Int32) (x2 : Int32) (M : ao_M) (ρ : ao_H) (y : Int32 × ao_S), fX12_put n 0 r0 x1 x2 0 0 M ρ = some y → ao_W Γ uX12_put (ao_rm d MC MS) (ao_Q Γ (ao_QI y) MC MS) (ao_dc ρ y.2.2) (ao_ds ρ y.2.2) 0 [some (.ref (Γ.2.2.2 + r0)), some (.int x1), some (.int x2)] [] (M, ρ)) ∧ (∀ (r0 : Nat) (x1 : Int32) (x2 : Int32) (s0 : Int32) (q1 : Nat) (M : ao_M) (ρ : ao_H) (y : Int32 × ao_S), fX12_put n 26 r0 x1 x2 s0 q1 M ρ = some y → ao_W Γ uX12_put (ao_rm d MC MS) (ao_Q Γ (ao_QI y) MC MS) (ao_dc ρ y.2.2) (ao_ds ρ y.2.2) 26 [some (.ref (Γ.2.2.2 + r0)), some (.int x1), some (.int x2)] [.int s0, .ref (Γ.2.2.2 + q1)] (M, ρ)) ∧ (∀ (r0 : Nat) (x1 : Int32) (x2 : Int32) (M : ao_M) (ρ : ao_H) (y : Int32 × ao_S), fX12_put n 40 r0 x1 x2 0 0 M ρ = some y → ao_W Γ uX12_put (ao_rm d MC MS) (ao_Q Γ (ao_QI y) MC MS) (ao_dc ρ y.2.2) (ao_ds ρ y.2.2) 40 [some (.ref (Γ.2.2.2 + r0)), some (.int x1), some (.int x2)] [] (M, ρ)) := by
  intro n
  induction n with
  | zero => exact ⟨fun _ _ _ _ _ _ h => ao_no h, fun _ _ _ _ _ _ _ _ h => ao_no h, fun _ _ _ _ _ _ h => ao_no h⟩
  | succ n ih =>
    refine ⟨?_, ?_, ?_⟩
    · intro r0 x1 x2 M ρ y h
      replace h := ao_ifT h rfl
      refine ao_aload_n 0 dX12_put_0 rfl rfl ?_
      refine ao_iload_n 1 dX12_put_1 rfl rfl ?_
      obtain ⟨p1, hp1, h⟩ := ao_bind h
      refine an_callSi [.int x1] (aX12_isPlace (d - 1) (by omega) x1 M ρ hp1) dX12_put_2 lc_X12_509 lt_X12_isPlace rfl rfl (Nat.le_of_ble_eq_true rfl) (ao_hR (by omega) (by decide)) ?_
      refine ao_if_ne 12 dX12_put_5 (by decide) (fun c2 => ?_) (fun c2 => ?_)
      · replace h := ao_ifF h c2
        refine ao_aload_n 0 dX12_put_12 rfl rfl ?_
        obtain ⟨hk3, h⟩ := ao_some h
        obtain ⟨j4, hj4, h⟩ := ao_bind h
        refine an_getR r0 12 19 (q := (RX12, TX12, 83)) dX12_put_13 rfl hk3 (Nat.le_of_ble_eq_true rfl) rfl lf_X12_177 hj4 ?_
        refine ao_iload_n 1 dX12_put_16 rfl rfl ?_
        obtain ⟨hk5, h⟩ := ao_some h
        obtain ⟨hb6, h⟩ := ao_some h
        refine an_iaload j4 dX12_put_17 hk5 hb6 ?_
        refine ao_if_lt 25 dX12_put_18 (by decide) (fun c7 => ?_) (fun c7 => ?_)
        · replace h := ao_ifT h c7
          refine ao_iconst (v := 0) dX12_put_25 (by decide) ?_
          exact ih.2.1 r0 x1 x2 (0 : Int32) r0 p1.2 ρ _ h
        · replace h := ao_ifF h c7
          refine ao_iconst (v := 2) dX12_put_21 (by decide) ?_
          refine ao_goto 26 dX12_put_22 (by decide) ?_
          exact ih.2.1 r0 x1 x2 (2 : Int32) r0 p1.2 ρ _ h
      · replace h := ao_ifT h c2
        refine ao_iconst (v := 1) dX12_put_8 (by decide) ?_
        refine ao_goto 26 dX12_put_9 (by decide) ?_
        exact ih.2.1 r0 x1 x2 (1 : Int32) r0 p1.2 ρ _ h
    · intro r0 x1 x2 s0 q1 M ρ y h
      replace h := ao_ifF h (by decide)
      replace h := ao_ifT h rfl
      obtain ⟨hk8, h⟩ := ao_some h
      obtain ⟨p9, hp9, h⟩ := ao_bind h
      refine an_callVi q1 12 (q := (RX12, TX12, 83)) [.int s0] (aX12_fails (d - 1) (by omega) q1 s0 M ρ hp9) dX12_put_26 lc_X12_497 li_X12_fails ls_X12_fails rfl hk8 rfl rfl (Nat.le_of_ble_eq_true rfl) (ao_hR (by omega) (by decide)) ?_
      refine ao_if_eq 34 dX12_put_29 (by decide) (fun c10 => ?_) (fun c10 => ?_)
      · replace h := ao_ifT h c10
        refine ao_aload_n 0 dX12_put_34 rfl rfl ?_
        refine ao_iload_n 1 dX12_put_35 rfl rfl ?_
        refine ao_iload_n 2 dX12_put_36 rfl rfl ?_
        obtain ⟨hk11, h⟩ := ao_some h
        obtain ⟨p12, hp12, h⟩ := ao_bind h
        refine ba_callVv r0 12 (q := (RX12, TX12, 83)) [.int x1, .int x2] (aX12_change (d - 1) (by omega) n r0 x1 x2 p9.2 ρ hp12) dX12_put_37 lc_X12_485 li_X12_change ls_X12_change rfl hk11 rfl rfl (Nat.le_of_ble_eq_true rfl) (ao_hR (by omega) (by decide)) (ao_leC (me_X12_change n r0 x1 x2 p9.2 ρ hp12) ((mX12_put n).2.2 r0 x1 x2 p12.1 p12.2 _ h)) (ao_leS (me_X12_change n r0 x1 x2 p9.2 ρ hp12) ((mX12_put n).2.2 r0 x1 x2 p12.1 p12.2 _ h)) ?_
        exact ih.2.2 r0 x1 x2 p12.1 p12.2 _ h
      · replace h := ao_ifF h c10
        refine ao_iconst (v := 0) dX12_put_32 (by decide) ?_
        cases h
        exact ao_ireturn dX12_put_33 rfl rfl ⟨rfl, rfl⟩
    · intro r0 x1 x2 M ρ y h
      replace h := ao_ifF h (by decide)
      replace h := ao_ifF h (by decide)
      replace h := ao_ifT h rfl
      refine ao_aload_n 0 dX12_put_40 rfl rfl ?_
      obtain ⟨hk13, h⟩ := ao_some h
      obtain ⟨j14, hj14, h⟩ := ao_bind h
      refine an_getR r0 12 20 (q := (RX12, TX12, 83)) dX12_put_41 rfl hk13 (Nat.le_of_ble_eq_true rfl) rfl lf_X12_180 hj14 ?_
      refine ao_iload_n 1 dX12_put_44 rfl rfl ?_
      refine ao_iload_n 2 dX12_put_45 rfl rfl ?_
      obtain ⟨hk15, h⟩ := ao_some h
      obtain ⟨hb16, h⟩ := ao_some h
      refine an_iastore j14 dX12_put_46 hk15 hb16 (fun M17 hM17 => ?_)
      replace h := ao_letD h hM17
      refine ao_aload_n 0 dX12_put_47 rfl rfl ?_
      refine an_getI r0 12 26 (q := (RX12, TX12, 83)) dX12_put_48 rfl hk13 (Nat.le_of_ble_eq_true rfl) rfl lf_X12_148 ?_
      cases h
      exact ao_ireturn dX12_put_51 rfl rfl ⟨rfl, rfl⟩
theorem me_X12_put (n : Nat) (r0 : Nat) (x1 : Int32) (x2 : Int32) (M : ao_M) (ρ : ao_H) {y : Int32 × ao_S} (h : gX12_put n r0 x1 x2 M ρ = some y) : ao_le ρ y.2.2 := (mX12_put n).1 r0 x1 x2 M ρ y h
set_option maxRecDepth 100000 in
set_option maxHeartbeats 4000000 in
theorem aX12_put {Γ : ao_C} (d : Nat) (hd : 3 ≤ d) (n : Nat) (r0 : Nat) (x1 : Int32) (x2 : Int32) (M : ao_M) (ρ : ao_H) {y : Int32 × ao_S} (h : gX12_put n r0 x1 x2 M ρ = some y) : ao_A Γ uX12_put d (ao_dc ρ y.2.2) (ao_ds ρ y.2.2) [.ref (Γ.2.2.2 + r0), .int x1, .int x2] (M, ρ) (ao_QI y) := by
  refine ao_of (by decide) (ao_cat1 (Nat.le_of_ble_eq_true rfl)) (Nat.le_of_ble_eq_true rfl) ?_
  show ao_W Γ uX12_put (ao_rm d (ao_dc ρ y.2.2) (ao_ds ρ y.2.2)) (ao_Q Γ (ao_QI y) (ao_dc ρ y.2.2) (ao_ds ρ y.2.2)) (ao_dc ρ y.2.2) (ao_ds ρ y.2.2) 0 [some (.ref (Γ.2.2.2 + r0)), some (.int x1), some (.int x2)] [] (M, ρ)
  exact (wX12_put d hd _ _ n).1 r0 x1 x2 M ρ y h

abbrev uX12_isLive : ao_Mi := (yX12_isLive, cX12_isLive, 2, (some .boolean), [])
def fX12_isLive : Nat → Nat → Nat → Int32 →  ao_M → ao_H → Option (Int32 × ao_M)
  | 0, _, _, _, _, _ => none
  | n + 1, pc, r0, x1, M, ρ =>
    if pc = 0 then
      if ρ.2.1 r0 = 22 then
      (ρ.1 r0 29).bind fun j2 =>
      if ρ.2.1 j2 = 0 then
      if ¬ (x1 < 0 ∨ ρ.2.2.1 j2 ≤ x1.toNatClampNeg) then
      if (M j2 x1.toNatClampNeg) = (1 : Int32) then
        fX12_isLive n 30 r0 x1 M ρ
      else
        if (M j2 x1.toNatClampNeg) = (2 : Int32) then
          fX12_isLive n 30 r0 x1 M ρ
        else
          if (M j2 x1.toNatClampNeg) = (3 : Int32) then
            fX12_isLive n 30 r0 x1 M ρ
          else
            some ((0 : Int32), M)
      else none
      else none
      else none
    else if pc = 30 then
      some ((1 : Int32), M)
    else none
def gX12_isLive (n : Nat) (r0 : Nat) (x1 : Int32) (M : ao_M) (ρ : ao_H) : Option (Int32 × ao_M) := fX12_isLive n 0 r0 x1 M ρ
set_option maxRecDepth 100000 in
set_option maxHeartbeats 4000000 in
theorem wX12_isLive {Γ : ao_C} {ρ : ao_H} (d : Nat) (hd : 0 ≤ d) : ∀ n : Nat, (∀ (r0 : Nat) (x1 : Int32) (M : ao_M) (y : Int32 × ao_M), fX12_isLive n 0 r0 x1 M ρ = some y → ao_W Γ uX12_isLive (ao_rm d 0 0) (ao_Q Γ (ao_PI ρ y) 0 0) 0 0 0 [some (.ref (Γ.2.2.2 + r0)), some (.int x1)] [] (M, ρ)) ∧ (∀ (r0 : Nat) (x1 : Int32) (M : ao_M) (y : Int32 × ao_M), fX12_isLive n 30 r0 x1 M ρ = some y → ao_W Γ uX12_isLive (ao_rm d 0 0) (ao_Q Γ (ao_PI ρ y) 0 0) 0 0 30 [some (.ref (Γ.2.2.2 + r0)), some (.int x1)] [] (M, ρ)) := by
  intro n
  induction n with
  | zero => exact ⟨fun _ _ _ _ h => ao_no h, fun _ _ _ _ h => ao_no h⟩
  | succ n ih =>
    refine ⟨?_, ?_⟩
    · intro r0 x1 M y h
      replace h := ao_ifT h rfl
      refine ao_aload_n 0 dX12_isLive_0 rfl rfl ?_
      obtain ⟨hk1, h⟩ := ao_some h
      obtain ⟨j2, hj2, h⟩ := ao_bind h
      refine an_getR r0 12 29 (q := (RX12, TX12, 83)) dX12_isLive_1 rfl hk1 (Nat.le_of_ble_eq_true rfl) rfl lf_X12_187 hj2 ?_
      refine ao_iload_n 1 dX12_isLive_4 rfl rfl ?_
      obtain ⟨hk3, h⟩ := ao_some h
      obtain ⟨hb4, h⟩ := ao_some h
      refine an_iaload j2 dX12_isLive_5 hk3 hb4 ?_
      refine ao_iconst (v := 1) dX12_isLive_6 (by decide) ?_
      refine ao_icmp_eq 30 dX12_isLive_7 (by decide) (fun c5 => ?_) (fun c5 => ?_)
      · replace h := ao_ifT h c5
        exact ih.2 r0 x1 M _ h
      · replace h := ao_ifF h c5
        refine ao_aload_n 0 dX12_isLive_10 rfl rfl ?_
        refine an_getR r0 12 29 (q := (RX12, TX12, 83)) dX12_isLive_11 rfl hk1 (Nat.le_of_ble_eq_true rfl) rfl lf_X12_187 hj2 ?_
        refine ao_iload_n 1 dX12_isLive_14 rfl rfl ?_
        refine an_iaload j2 dX12_isLive_15 hk3 hb4 ?_
        refine ao_iconst (v := 2) dX12_isLive_16 (by decide) ?_
        refine ao_icmp_eq 30 dX12_isLive_17 (by decide) (fun c6 => ?_) (fun c6 => ?_)
        · replace h := ao_ifT h c6
          exact ih.2 r0 x1 M _ h
        · replace h := ao_ifF h c6
          refine ao_aload_n 0 dX12_isLive_20 rfl rfl ?_
          refine an_getR r0 12 29 (q := (RX12, TX12, 83)) dX12_isLive_21 rfl hk1 (Nat.le_of_ble_eq_true rfl) rfl lf_X12_187 hj2 ?_
          refine ao_iload_n 1 dX12_isLive_24 rfl rfl ?_
          refine an_iaload j2 dX12_isLive_25 hk3 hb4 ?_
          refine ao_iconst (v := 3) dX12_isLive_26 (by decide) ?_
          refine ao_icmp_ne 34 dX12_isLive_27 (by decide) (fun c7 => ?_) (fun c7 => ?_)
          · replace h := ao_ifF h c7
            refine ao_iconst (v := 0) dX12_isLive_34 (by decide) ?_
            cases h
            exact ao_ireturn dX12_isLive_35 rfl rfl ⟨rfl, rfl⟩
          · replace h := ao_ifT h c7
            exact ih.2 r0 x1 M _ h
    · intro r0 x1 M y h
      replace h := ao_ifF h (by decide)
      replace h := ao_ifT h rfl
      refine ao_iconst (v := 1) dX12_isLive_30 (by decide) ?_
      refine ao_goto 35 dX12_isLive_31 (by decide) ?_
      cases h
      exact ao_ireturn dX12_isLive_35 rfl rfl ⟨rfl, rfl⟩
set_option maxRecDepth 100000 in
set_option maxHeartbeats 4000000 in
theorem aX12_isLive {Γ : ao_C} (d : Nat) (hd : 0 ≤ d) (n : Nat) (r0 : Nat) (x1 : Int32) (M : ao_M) (ρ : ao_H) {y : Int32 × ao_M} (h : gX12_isLive n r0 x1 M ρ = some y) : ao_A Γ uX12_isLive d 0 0 [.ref (Γ.2.2.2 + r0), .int x1] (M, ρ) (ao_PI ρ y) := by
  refine ao_of (by decide) (ao_cat1 (Nat.le_of_ble_eq_true rfl)) (Nat.le_of_ble_eq_true rfl) ?_
  show ao_W Γ uX12_isLive (ao_rm d 0 0) (ao_Q Γ (ao_PI ρ y) 0 0) 0 0 0 [some (.ref (Γ.2.2.2 + r0)), some (.int x1)] [] (M, ρ)
  exact (wX12_isLive d hd n).1 r0 x1 M y h

abbrev uX12_has : ao_Mi := (yX12_has, cX12_has, 2, (some .int), [])
def fX12_has : Nat → Nat → Nat → Int32 → Int32 → Nat →  ao_M → ao_H → Option (Int32 × ao_M)
  | 0, _, _, _, _, _, _, _ => none
  | n + 1, pc, r0, x1, s0, q1, M, ρ =>
    if pc = 0 then
      (gX12_isPlace x1 M ρ).bind fun p1 =>
      if p1.1 = 0 then
        fX12_has n 13 r0 x1 (1 : Int32) r0 p1.2 ρ
      else
        fX12_has n 13 r0 x1 (0 : Int32) r0 p1.2 ρ
    else if pc = 13 then
      if ρ.2.1 q1 = 22 then
      (gX12_fails q1 s0 M ρ).bind fun p4 =>
      if p4.1 = 0 then
        if ρ.2.1 r0 = 22 then
        (ρ.1 r0 17).bind fun j7 =>
        if ρ.2.1 j7 = 0 then
        if ¬ (x1 < 0 ∨ ρ.2.2.1 j7 ≤ x1.toNatClampNeg) then
        some ((p4.2 j7 x1.toNatClampNeg), p4.2)
        else none
        else none
        else none
      else
        some ((0 : Int32), p4.2)
      else none
    else none
def gX12_has (n : Nat) (r0 : Nat) (x1 : Int32) (M : ao_M) (ρ : ao_H) : Option (Int32 × ao_M) := fX12_has n 0 r0 x1 0 0 M ρ
set_option maxRecDepth 100000 in
set_option maxHeartbeats 4000000 in
theorem wX12_has {Γ : ao_C} {ρ : ao_H} (d : Nat) (hd : 1 ≤ d) : ∀ n : Nat, (∀ (r0 : Nat) (x1 : Int32) (M : ao_M) (y : Int32 × ao_M), fX12_has n 0 r0 x1 0 0 M ρ = some y → ao_W Γ uX12_has (ao_rm d 0 0) (ao_Q Γ (ao_PI ρ y) 0 0) 0 0 0 [some (.ref (Γ.2.2.2 + r0)), some (.int x1)] [] (M, ρ)) ∧ (∀ (r0 : Nat) (x1 : Int32) (s0 : Int32) (q1 : Nat) (M : ao_M) (y : Int32 × ao_M), fX12_has n 13 r0 x1 s0 q1 M ρ = some y → ao_W Γ uX12_has (ao_rm d 0 0) (ao_Q Γ (ao_PI ρ y) 0 0) 0 0 13 [some (.ref (Γ.2.2.2 + r0)), some (.int x1)] [.int s0, .ref (Γ.2.2.2 + q1)] (M, ρ)) := by
  intro n
  induction n with
  | zero => exact ⟨fun _ _ _ _ h => ao_no h, fun _ _ _ _ _ _ h => ao_no h⟩
  | succ n ih =>
    refine ⟨?_, ?_⟩
    · intro r0 x1 M y h
      replace h := ao_ifT h rfl
      refine ao_aload_n 0 dX12_has_0 rfl rfl ?_
      refine ao_iload_n 1 dX12_has_1 rfl rfl ?_
      obtain ⟨p1, hp1, h⟩ := ao_bind h
      refine an_callSi [.int x1] (aX12_isPlace (d - 1) (by omega) x1 M ρ hp1) dX12_has_2 lc_X12_509 lt_X12_isPlace rfl rfl (Nat.le_of_ble_eq_true rfl) (ao_hR (by omega) (by decide)) ?_
      refine ao_if_ne 12 dX12_has_5 (by decide) (fun c2 => ?_) (fun c2 => ?_)
      · replace h := ao_ifF h c2
        refine ao_iconst (v := 0) dX12_has_12 (by decide) ?_
        exact ih.2 r0 x1 (0 : Int32) r0 p1.2 _ h
      · replace h := ao_ifT h c2
        refine ao_iconst (v := 1) dX12_has_8 (by decide) ?_
        refine ao_goto 13 dX12_has_9 (by decide) ?_
        exact ih.2 r0 x1 (1 : Int32) r0 p1.2 _ h
    · intro r0 x1 s0 q1 M y h
      replace h := ao_ifF h (by decide)
      replace h := ao_ifT h rfl
      obtain ⟨hk3, h⟩ := ao_some h
      obtain ⟨p4, hp4, h⟩ := ao_bind h
      refine an_callVi q1 12 (q := (RX12, TX12, 83)) [.int s0] (aX12_fails (d - 1) (by omega) q1 s0 M ρ hp4) dX12_has_13 lc_X12_497 li_X12_fails ls_X12_fails rfl hk3 rfl rfl (Nat.le_of_ble_eq_true rfl) (ao_hR (by omega) (by decide)) ?_
      refine ao_if_eq 21 dX12_has_16 (by decide) (fun c5 => ?_) (fun c5 => ?_)
      · replace h := ao_ifT h c5
        refine ao_aload_n 0 dX12_has_21 rfl rfl ?_
        obtain ⟨hk6, h⟩ := ao_some h
        obtain ⟨j7, hj7, h⟩ := ao_bind h
        refine an_getR r0 12 17 (q := (RX12, TX12, 83)) dX12_has_22 rfl hk6 (Nat.le_of_ble_eq_true rfl) rfl lf_X12_151 hj7 ?_
        refine ao_iload_n 1 dX12_has_25 rfl rfl ?_
        obtain ⟨hk8, h⟩ := ao_some h
        obtain ⟨hb9, h⟩ := ao_some h
        refine an_iaload j7 dX12_has_26 hk8 hb9 ?_
        cases h
        exact ao_ireturn dX12_has_27 rfl rfl ⟨rfl, rfl⟩
      · replace h := ao_ifF h c5
        refine ao_iconst (v := 0) dX12_has_19 (by decide) ?_
        cases h
        exact ao_ireturn dX12_has_20 rfl rfl ⟨rfl, rfl⟩
set_option maxRecDepth 100000 in
set_option maxHeartbeats 4000000 in
theorem aX12_has {Γ : ao_C} (d : Nat) (hd : 1 ≤ d) (n : Nat) (r0 : Nat) (x1 : Int32) (M : ao_M) (ρ : ao_H) {y : Int32 × ao_M} (h : gX12_has n r0 x1 M ρ = some y) : ao_A Γ uX12_has d 0 0 [.ref (Γ.2.2.2 + r0), .int x1] (M, ρ) (ao_PI ρ y) := by
  refine ao_of (by decide) (ao_cat1 (Nat.le_of_ble_eq_true rfl)) (Nat.le_of_ble_eq_true rfl) ?_
  show ao_W Γ uX12_has (ao_rm d 0 0) (ao_Q Γ (ao_PI ρ y) 0 0) 0 0 0 [some (.ref (Γ.2.2.2 + r0)), some (.int x1)] [] (M, ρ)
  exact (wX12_has d hd n).1 r0 x1 M y h

abbrev uX12_had : ao_Mi := (yX12_had, cX12_had, 3, (some .int), [])
def fX12_had : Nat → Nat → Nat → Int32 → Int32 → Nat → Int32 → Nat →  ao_M → ao_H → Option (Int32 × ao_M)
  | 0, _, _, _, _, _, _, _, _, _ => none
  | n + 1, pc, r0, x1, x2, q0, s0, q1, M, ρ =>
    if pc = 0 then
      (gX12_isPlace x1 M ρ).bind fun p1 =>
      if p1.1 = 0 then
        fX12_had n 20 r0 x1 x2 r0 0 0 p1.2 ρ
      else
        if x2 < 0 then
          fX12_had n 20 r0 x1 x2 r0 0 0 p1.2 ρ
        else
          if ρ.2.1 r0 = 22 then
          if x2 ≤ (p1.2 r0 26) then
            fX12_had n 25 r0 x1 x2 0 (0 : Int32) r0 p1.2 ρ
          else
            fX12_had n 20 r0 x1 x2 r0 0 0 p1.2 ρ
          else none
    else if pc = 20 then
      fX12_had n 25 r0 x1 x2 0 (1 : Int32) q0 M ρ
    else if pc = 25 then
      if ρ.2.1 q1 = 22 then
      (gX12_fails q1 s0 M ρ).bind fun p7 =>
      if p7.1 = 0 then
        if ρ.2.1 r0 = 22 then
        (gX12_past n r0 x1 x2 p7.2 ρ).bind fun p10 =>
        some (p10.1, p10.2)
        else none
      else
        some ((0 : Int32), p7.2)
      else none
    else none
def gX12_had (n : Nat) (r0 : Nat) (x1 : Int32) (x2 : Int32) (M : ao_M) (ρ : ao_H) : Option (Int32 × ao_M) := fX12_had n 0 r0 x1 x2 0 0 0 M ρ
set_option maxRecDepth 100000 in
set_option maxHeartbeats 4000000 in
theorem wX12_had {Γ : ao_C} {ρ : ao_H} (d : Nat) (hd : 1 ≤ d) : ∀ n : Nat, (∀ (r0 : Nat) (x1 : Int32) (x2 : Int32) (M : ao_M) (y : Int32 × ao_M), fX12_had n 0 r0 x1 x2 0 0 0 M ρ = some y → ao_W Γ uX12_had (ao_rm d 0 0) (ao_Q Γ (ao_PI ρ y) 0 0) 0 0 0 [some (.ref (Γ.2.2.2 + r0)), some (.int x1), some (.int x2)] [] (M, ρ)) ∧ (∀ (r0 : Nat) (x1 : Int32) (x2 : Int32) (q0 : Nat) (M : ao_M) (y : Int32 × ao_M), fX12_had n 20 r0 x1 x2 q0 0 0 M ρ = some y → ao_W Γ uX12_had (ao_rm d 0 0) (ao_Q Γ (ao_PI ρ y) 0 0) 0 0 20 [some (.ref (Γ.2.2.2 + r0)), some (.int x1), some (.int x2)] [.ref (Γ.2.2.2 + q0)] (M, ρ)) ∧ (∀ (r0 : Nat) (x1 : Int32) (x2 : Int32) (s0 : Int32) (q1 : Nat) (M : ao_M) (y : Int32 × ao_M), fX12_had n 25 r0 x1 x2 0 s0 q1 M ρ = some y → ao_W Γ uX12_had (ao_rm d 0 0) (ao_Q Γ (ao_PI ρ y) 0 0) 0 0 25 [some (.ref (Γ.2.2.2 + r0)), some (.int x1), some (.int x2)] [.int s0, .ref (Γ.2.2.2 + q1)] (M, ρ)) := by
  intro n
  induction n with
  | zero => exact ⟨fun _ _ _ _ _ h => ao_no h, fun _ _ _ _ _ _ h => ao_no h, fun _ _ _ _ _ _ _ h => ao_no h⟩
  | succ n ih =>
    refine ⟨?_, ?_, ?_⟩
    · intro r0 x1 x2 M y h
      replace h := ao_ifT h rfl
      refine ao_aload_n 0 dX12_had_0 rfl rfl ?_
      refine ao_iload_n 1 dX12_had_1 rfl rfl ?_
      obtain ⟨p1, hp1, h⟩ := ao_bind h
      refine an_callSi [.int x1] (aX12_isPlace (d - 1) (by omega) x1 M ρ hp1) dX12_had_2 lc_X12_509 lt_X12_isPlace rfl rfl (Nat.le_of_ble_eq_true rfl) (ao_hR (by omega) (by decide)) ?_
      refine ao_if_eq 20 dX12_had_5 (by decide) (fun c2 => ?_) (fun c2 => ?_)
      · replace h := ao_ifT h c2
        exact ih.2.1 r0 x1 x2 r0 p1.2 _ h
      · replace h := ao_ifF h c2
        refine ao_iload_n 2 dX12_had_8 rfl rfl ?_
        refine ao_if_lt 20 dX12_had_9 (by decide) (fun c3 => ?_) (fun c3 => ?_)
        · replace h := ao_ifT h c3
          exact ih.2.1 r0 x1 x2 r0 p1.2 _ h
        · replace h := ao_ifF h c3
          refine ao_iload_n 2 dX12_had_12 rfl rfl ?_
          refine ao_aload_n 0 dX12_had_13 rfl rfl ?_
          obtain ⟨hk4, h⟩ := ao_some h
          refine an_getI r0 12 26 (q := (RX12, TX12, 83)) dX12_had_14 rfl hk4 (Nat.le_of_ble_eq_true rfl) rfl lf_X12_148 ?_
          refine ao_icmp_le 24 dX12_had_17 (by decide) (fun c5 => ?_) (fun c5 => ?_)
          · replace h := ao_ifT h c5
            refine ao_iconst (v := 0) dX12_had_24 (by decide) ?_
            exact ih.2.2 r0 x1 x2 (0 : Int32) r0 p1.2 _ h
          · replace h := ao_ifF h c5
            exact ih.2.1 r0 x1 x2 r0 p1.2 _ h
    · intro r0 x1 x2 q0 M y h
      replace h := ao_ifF h (by decide)
      replace h := ao_ifT h rfl
      refine ao_iconst (v := 1) dX12_had_20 (by decide) ?_
      refine ao_goto 25 dX12_had_21 (by decide) ?_
      exact ih.2.2 r0 x1 x2 (1 : Int32) q0 M _ h
    · intro r0 x1 x2 s0 q1 M y h
      replace h := ao_ifF h (by decide)
      replace h := ao_ifF h (by decide)
      replace h := ao_ifT h rfl
      obtain ⟨hk6, h⟩ := ao_some h
      obtain ⟨p7, hp7, h⟩ := ao_bind h
      refine an_callVi q1 12 (q := (RX12, TX12, 83)) [.int s0] (aX12_fails (d - 1) (by omega) q1 s0 M ρ hp7) dX12_had_25 lc_X12_497 li_X12_fails ls_X12_fails rfl hk6 rfl rfl (Nat.le_of_ble_eq_true rfl) (ao_hR (by omega) (by decide)) ?_
      refine ao_if_eq 33 dX12_had_28 (by decide) (fun c8 => ?_) (fun c8 => ?_)
      · replace h := ao_ifT h c8
        refine ao_aload_n 0 dX12_had_33 rfl rfl ?_
        refine ao_iload_n 1 dX12_had_34 rfl rfl ?_
        refine ao_iload_n 2 dX12_had_35 rfl rfl ?_
        obtain ⟨hk9, h⟩ := ao_some h
        obtain ⟨p10, hp10, h⟩ := ao_bind h
        refine an_callVi r0 12 (q := (RX12, TX12, 83)) [.int x1, .int x2] (aX12_past (d - 1) (by omega) _ r0 x1 x2 p7.2 ρ hp10) dX12_had_36 lc_X12_415 li_X12_past ls_X12_past rfl hk9 rfl rfl (Nat.le_of_ble_eq_true rfl) (ao_hR (by omega) (by decide)) ?_
        cases h
        exact ao_ireturn dX12_had_39 rfl rfl ⟨rfl, rfl⟩
      · replace h := ao_ifF h c8
        refine ao_iconst (v := 0) dX12_had_31 (by decide) ?_
        cases h
        exact ao_ireturn dX12_had_32 rfl rfl ⟨rfl, rfl⟩
set_option maxRecDepth 100000 in
set_option maxHeartbeats 4000000 in
theorem aX12_had {Γ : ao_C} (d : Nat) (hd : 1 ≤ d) (n : Nat) (r0 : Nat) (x1 : Int32) (x2 : Int32) (M : ao_M) (ρ : ao_H) {y : Int32 × ao_M} (h : gX12_had n r0 x1 x2 M ρ = some y) : ao_A Γ uX12_had d 0 0 [.ref (Γ.2.2.2 + r0), .int x1, .int x2] (M, ρ) (ao_PI ρ y) := by
  refine ao_of (by decide) (ao_cat1 (Nat.le_of_ble_eq_true rfl)) (Nat.le_of_ble_eq_true rfl) ?_
  show ao_W Γ uX12_had (ao_rm d 0 0) (ao_Q Γ (ao_PI ρ y) 0 0) 0 0 0 [some (.ref (Γ.2.2.2 + r0)), some (.int x1), some (.int x2)] [] (M, ρ)
  exact (wX12_had d hd n).1 r0 x1 x2 M y h
