abbrev uX12_register : ao_Mi := (yX12_register, cX12_register, 3, (some .int), [])
def fX12_register : Nat → Nat → Nat → Int32 → Int32 → Nat → Int32 → Nat →  ao_M → ao_H → Option (Int32 × ao_M)
  | 0, _, _, _, _, _, _, _, _, _ => none
  | n + 1, pc, r0, x1, x2, q0, s0, q1, M, ρ =>
    if pc = 0 then
      (gX12_isThread x1 M ρ).bind fun p1 =>
      if p1.1 = 0 then
        fX12_register n 15 r0 x1 x2 r0 0 0 p1.2 ρ
      else
        (gX12_isPlace x2 p1.2 ρ).bind fun p3 =>
        if p3.1 = 0 then
          fX12_register n 15 r0 x1 x2 r0 0 0 p3.2 ρ
        else
          fX12_register n 20 r0 x1 x2 0 (0 : Int32) r0 p3.2 ρ
    else if pc = 15 then
      fX12_register n 20 r0 x1 x2 0 (1 : Int32) q0 M ρ
    else if pc = 20 then
      if ρ.2.1 q1 = 22 then
      (gX12_fails q1 s0 M ρ).bind fun p6 =>
      if p6.1 = 0 then
        if ρ.2.1 r0 = 22 then
        (ρ.1 r0 31).bind fun j9 =>
        if ρ.2.1 j9 = 0 then
        if ¬ (((x1 * (26 : Int32)) + x2) < 0 ∨ ρ.2.2.1 j9 ≤ ((x1 * (26 : Int32)) + x2).toNatClampNeg) then
        some ((p6.2 j9 ((x1 * (26 : Int32)) + x2).toNatClampNeg), p6.2)
        else none
        else none
        else none
      else
        some ((0 : Int32), p6.2)
      else none
    else none
def gX12_register (n : Nat) (r0 : Nat) (x1 : Int32) (x2 : Int32) (M : ao_M) (ρ : ao_H) : Option (Int32 × ao_M) := fX12_register n 0 r0 x1 x2 0 0 0 M ρ
set_option maxRecDepth 100000 in
set_option maxHeartbeats 4000000 in
theorem wX12_register {Γ : ao_C} {ρ : ao_H} (d : Nat) (hd : 1 ≤ d) : ∀ n : Nat, (∀ (r0 : Nat) (x1 : Int32) (x2 : Int32) (M : ao_M) (y : Int32 × ao_M), fX12_register n 0 r0 x1 x2 0 0 0 M ρ = some y → ao_W Γ uX12_register (ao_rm d 0 0) (ao_Q Γ (ao_PI ρ y) 0 0) 0 0 0 [some (.ref (Γ.2.2.2 + r0)), some (.int x1), some (.int x2)] [] (M, ρ)) ∧ (∀ (r0 : Nat) (x1 : Int32) (x2 : Int32) (q0 : Nat) (M : ao_M) (y : Int32 × ao_M), fX12_register n 15 r0 x1 x2 q0 0 0 M ρ = some y → ao_W Γ uX12_register (ao_rm d 0 0) (ao_Q Γ (ao_PI ρ y) 0 0) 0 0 15 [some (.ref (Γ.2.2.2 + r0)), some (.int x1), some (.int x2)] [.ref (Γ.2.2.2 + q0)] (M, ρ)) ∧ (∀ (r0 : Nat) (x1 : Int32) (x2 : Int32) (s0 : Int32) (q1 : Nat) (M : ao_M) (y : Int32 × ao_M), fX12_register n 20 r0 x1 x2 0 s0 q1 M ρ = some y → ao_W Γ uX12_register (ao_rm d 0 0) (ao_Q Γ (ao_PI ρ y) 0 0) 0 0 20 [some (.ref (Γ.2.2.2 + r0)), some (.int x1), some (.int x2)] [.int s0, .ref (Γ.2.2.2 + q1)] (M, ρ)) := by
  intro n
  induction n with
  | zero => exact ⟨fun _ _ _ _ _ h => ao_no h, fun _ _ _ _ _ _ h => ao_no h, fun _ _ _ _ _ _ _ h => ao_no h⟩
  | succ n ih =>
    refine ⟨?_, ?_, ?_⟩
    · intro r0 x1 x2 M y h
      replace h := ao_ifT h rfl
      refine ao_aload_n 0 dX12_register_0 rfl rfl ?_
      refine ao_iload_n 1 dX12_register_1 rfl rfl ?_
      obtain ⟨p1, hp1, h⟩ := ao_bind h
      refine an_callSi [.int x1] (aX12_isThread (d - 1) (by omega) x1 M ρ hp1) dX12_register_2 lc_X12_503 lt_X12_isThread rfl rfl (Nat.le_of_ble_eq_true rfl) (ao_hR (by omega) (by decide)) ?_
      refine ao_if_eq 15 dX12_register_5 (by decide) (fun c2 => ?_) (fun c2 => ?_)
      · replace h := ao_ifT h c2
        exact ih.2.1 r0 x1 x2 r0 p1.2 _ h
      · replace h := ao_ifF h c2
        refine ao_iload_n 2 dX12_register_8 rfl rfl ?_
        obtain ⟨p3, hp3, h⟩ := ao_bind h
        refine an_callSi [.int x2] (aX12_isPlace (d - 1) (by omega) x2 p1.2 ρ hp3) dX12_register_9 lc_X12_509 lt_X12_isPlace rfl rfl (Nat.le_of_ble_eq_true rfl) (ao_hR (by omega) (by decide)) ?_
        refine ao_if_ne 19 dX12_register_12 (by decide) (fun c4 => ?_) (fun c4 => ?_)
        · replace h := ao_ifF h c4
          refine ao_iconst (v := 0) dX12_register_19 (by decide) ?_
          exact ih.2.2 r0 x1 x2 (0 : Int32) r0 p3.2 _ h
        · replace h := ao_ifT h c4
          exact ih.2.1 r0 x1 x2 r0 p3.2 _ h
    · intro r0 x1 x2 q0 M y h
      replace h := ao_ifF h (by decide)
      replace h := ao_ifT h rfl
      refine ao_iconst (v := 1) dX12_register_15 (by decide) ?_
      refine ao_goto 20 dX12_register_16 (by decide) ?_
      exact ih.2.2 r0 x1 x2 (1 : Int32) q0 M _ h
    · intro r0 x1 x2 s0 q1 M y h
      replace h := ao_ifF h (by decide)
      replace h := ao_ifF h (by decide)
      replace h := ao_ifT h rfl
      obtain ⟨hk5, h⟩ := ao_some h
      obtain ⟨p6, hp6, h⟩ := ao_bind h
      refine an_callVi q1 12 (q := (RX12, TX12, 83)) [.int s0] (aX12_fails (d - 1) (by omega) q1 s0 M ρ hp6) dX12_register_20 lc_X12_497 li_X12_fails ls_X12_fails rfl hk5 rfl rfl (Nat.le_of_ble_eq_true rfl) (ao_hR (by omega) (by decide)) ?_
      refine ao_if_eq 28 dX12_register_23 (by decide) (fun c7 => ?_) (fun c7 => ?_)
      · replace h := ao_ifT h c7
        refine ao_aload_n 0 dX12_register_28 rfl rfl ?_
        obtain ⟨hk8, h⟩ := ao_some h
        obtain ⟨j9, hj9, h⟩ := ao_bind h
        refine an_getR r0 12 31 (q := (RX12, TX12, 83)) dX12_register_29 rfl hk8 (Nat.le_of_ble_eq_true rfl) rfl lf_X12_193 hj9 ?_
        refine ao_iload_n 1 dX12_register_32 rfl rfl ?_
        refine ao_bipush (v := 26) dX12_register_33 (by decide) ?_
        refine ao_imul dX12_register_35 ?_
        refine ao_iload_n 2 dX12_register_36 rfl rfl ?_
        refine ao_iadd dX12_register_37 ?_
        obtain ⟨hk10, h⟩ := ao_some h
        obtain ⟨hb11, h⟩ := ao_some h
        refine an_iaload j9 dX12_register_38 hk10 hb11 ?_
        cases h
        exact ao_ireturn dX12_register_39 rfl rfl ⟨rfl, rfl⟩
      · replace h := ao_ifF h c7
        refine ao_iconst (v := 0) dX12_register_26 (by decide) ?_
        cases h
        exact ao_ireturn dX12_register_27 rfl rfl ⟨rfl, rfl⟩
set_option maxRecDepth 100000 in
set_option maxHeartbeats 4000000 in
theorem aX12_register {Γ : ao_C} (d : Nat) (hd : 1 ≤ d) (n : Nat) (r0 : Nat) (x1 : Int32) (x2 : Int32) (M : ao_M) (ρ : ao_H) {y : Int32 × ao_M} (h : gX12_register n r0 x1 x2 M ρ = some y) : ao_A Γ uX12_register d 0 0 [.ref (Γ.2.2.2 + r0), .int x1, .int x2] (M, ρ) (ao_PI ρ y) := by
  refine ao_of (by decide) (ao_cat1 (Nat.le_of_ble_eq_true rfl)) (Nat.le_of_ble_eq_true rfl) ?_
  show ao_W Γ uX12_register (ao_rm d 0 0) (ao_Q Γ (ao_PI ρ y) 0 0) 0 0 0 [some (.ref (Γ.2.2.2 + r0)), some (.int x1), some (.int x2)] [] (M, ρ)
  exact (wX12_register d hd n).1 r0 x1 x2 M y h

abbrev uX12_said : ao_Mi := (yX12_said, cX12_said, 3, (some .int), [])
def fX12_said : Nat → Nat → Nat → Int32 → Int32 → Nat → Int32 → Nat →  ao_M → ao_H → Option (Int32 × ao_M)
  | 0, _, _, _, _, _, _, _, _, _ => none
  | n + 1, pc, r0, x1, x2, q0, s0, q1, M, ρ =>
    if pc = 0 then
      if x1 < 0 then
        fX12_said n 13 r0 x1 x2 r0 0 0 M ρ
      else
        if ρ.2.1 r0 = 22 then
        if x1 < (M r0 68) then
          fX12_said n 18 r0 x1 x2 0 (0 : Int32) r0 M ρ
        else
          fX12_said n 13 r0 x1 x2 r0 0 0 M ρ
        else none
    else if pc = 13 then
      fX12_said n 18 r0 x1 x2 0 (1 : Int32) q0 M ρ
    else if pc = 18 then
      if ρ.2.1 q1 = 22 then
      (gX12_fails q1 s0 M ρ).bind fun p5 =>
      if p5.1 = 0 then
        if x2 = 0 then
          if ρ.2.1 r0 = 22 then
          (ρ.1 r0 66).bind fun j9 =>
          if ρ.2.1 j9 = 0 then
          if ¬ (x1 < 0 ∨ ρ.2.2.1 j9 ≤ x1.toNatClampNeg) then
          some ((p5.2 j9 x1.toNatClampNeg), p5.2)
          else none
          else none
          else none
        else
          if ρ.2.1 r0 = 22 then
          (ρ.1 r0 67).bind fun j13 =>
          if ρ.2.1 j13 = 0 then
          if ¬ (x1 < 0 ∨ ρ.2.2.1 j13 ≤ x1.toNatClampNeg) then
          some ((p5.2 j13 x1.toNatClampNeg), p5.2)
          else none
          else none
          else none
      else
        some ((0 : Int32), p5.2)
      else none
    else none
def gX12_said (n : Nat) (r0 : Nat) (x1 : Int32) (x2 : Int32) (M : ao_M) (ρ : ao_H) : Option (Int32 × ao_M) := fX12_said n 0 r0 x1 x2 0 0 0 M ρ
set_option maxRecDepth 100000 in
set_option maxHeartbeats 4000000 in
theorem wX12_said {Γ : ao_C} {ρ : ao_H} (d : Nat) (hd : 1 ≤ d) : ∀ n : Nat, (∀ (r0 : Nat) (x1 : Int32) (x2 : Int32) (M : ao_M) (y : Int32 × ao_M), fX12_said n 0 r0 x1 x2 0 0 0 M ρ = some y → ao_W Γ uX12_said (ao_rm d 0 0) (ao_Q Γ (ao_PI ρ y) 0 0) 0 0 0 [some (.ref (Γ.2.2.2 + r0)), some (.int x1), some (.int x2)] [] (M, ρ)) ∧ (∀ (r0 : Nat) (x1 : Int32) (x2 : Int32) (q0 : Nat) (M : ao_M) (y : Int32 × ao_M), fX12_said n 13 r0 x1 x2 q0 0 0 M ρ = some y → ao_W Γ uX12_said (ao_rm d 0 0) (ao_Q Γ (ao_PI ρ y) 0 0) 0 0 13 [some (.ref (Γ.2.2.2 + r0)), some (.int x1), some (.int x2)] [.ref (Γ.2.2.2 + q0)] (M, ρ)) ∧ (∀ (r0 : Nat) (x1 : Int32) (x2 : Int32) (s0 : Int32) (q1 : Nat) (M : ao_M) (y : Int32 × ao_M), fX12_said n 18 r0 x1 x2 0 s0 q1 M ρ = some y → ao_W Γ uX12_said (ao_rm d 0 0) (ao_Q Γ (ao_PI ρ y) 0 0) 0 0 18 [some (.ref (Γ.2.2.2 + r0)), some (.int x1), some (.int x2)] [.int s0, .ref (Γ.2.2.2 + q1)] (M, ρ)) := by
  intro n
  induction n with
  | zero => exact ⟨fun _ _ _ _ _ h => ao_no h, fun _ _ _ _ _ _ h => ao_no h, fun _ _ _ _ _ _ _ h => ao_no h⟩
  | succ n ih =>
    refine ⟨?_, ?_, ?_⟩
    · intro r0 x1 x2 M y h
      replace h := ao_ifT h rfl
      refine ao_aload_n 0 dX12_said_0 rfl rfl ?_
      refine ao_iload_n 1 dX12_said_1 rfl rfl ?_
      refine ao_if_lt 13 dX12_said_2 (by decide) (fun c1 => ?_) (fun c1 => ?_)
      · replace h := ao_ifT h c1
        exact ih.2.1 r0 x1 x2 r0 M _ h
      · replace h := ao_ifF h c1
        refine ao_iload_n 1 dX12_said_5 rfl rfl ?_
        refine ao_aload_n 0 dX12_said_6 rfl rfl ?_
        obtain ⟨hk2, h⟩ := ao_some h
        refine an_getI r0 12 68 (q := (RX12, TX12, 83)) dX12_said_7 rfl hk2 (Nat.le_of_ble_eq_true rfl) rfl lf_X12_335 ?_
        refine ao_icmp_lt 17 dX12_said_10 (by decide) (fun c3 => ?_) (fun c3 => ?_)
        · replace h := ao_ifT h c3
          refine ao_iconst (v := 0) dX12_said_17 (by decide) ?_
          exact ih.2.2 r0 x1 x2 (0 : Int32) r0 M _ h
        · replace h := ao_ifF h c3
          exact ih.2.1 r0 x1 x2 r0 M _ h
    · intro r0 x1 x2 q0 M y h
      replace h := ao_ifF h (by decide)
      replace h := ao_ifT h rfl
      refine ao_iconst (v := 1) dX12_said_13 (by decide) ?_
      refine ao_goto 18 dX12_said_14 (by decide) ?_
      exact ih.2.2 r0 x1 x2 (1 : Int32) q0 M _ h
    · intro r0 x1 x2 s0 q1 M y h
      replace h := ao_ifF h (by decide)
      replace h := ao_ifF h (by decide)
      replace h := ao_ifT h rfl
      obtain ⟨hk4, h⟩ := ao_some h
      obtain ⟨p5, hp5, h⟩ := ao_bind h
      refine an_callVi q1 12 (q := (RX12, TX12, 83)) [.int s0] (aX12_fails (d - 1) (by omega) q1 s0 M ρ hp5) dX12_said_18 lc_X12_497 li_X12_fails ls_X12_fails rfl hk4 rfl rfl (Nat.le_of_ble_eq_true rfl) (ao_hR (by omega) (by decide)) ?_
      refine ao_if_eq 26 dX12_said_21 (by decide) (fun c6 => ?_) (fun c6 => ?_)
      · replace h := ao_ifT h c6
        refine ao_iload_n 2 dX12_said_26 rfl rfl ?_
        refine ao_if_eq 39 dX12_said_27 (by decide) (fun c7 => ?_) (fun c7 => ?_)
        · replace h := ao_ifT h c7
          refine ao_aload_n 0 dX12_said_39 rfl rfl ?_
          obtain ⟨hk8, h⟩ := ao_some h
          obtain ⟨j9, hj9, h⟩ := ao_bind h
          refine an_getR r0 12 66 (q := (RX12, TX12, 83)) dX12_said_40 rfl hk8 (Nat.le_of_ble_eq_true rfl) rfl lf_X12_290 hj9 ?_
          refine ao_iload_n 1 dX12_said_43 rfl rfl ?_
          obtain ⟨hk10, h⟩ := ao_some h
          obtain ⟨hb11, h⟩ := ao_some h
          refine an_iaload j9 dX12_said_44 hk10 hb11 ?_
          cases h
          exact ao_ireturn dX12_said_45 rfl rfl ⟨rfl, rfl⟩
        · replace h := ao_ifF h c7
          refine ao_aload_n 0 dX12_said_30 rfl rfl ?_
          obtain ⟨hk12, h⟩ := ao_some h
          obtain ⟨j13, hj13, h⟩ := ao_bind h
          refine an_getR r0 12 67 (q := (RX12, TX12, 83)) dX12_said_31 rfl hk12 (Nat.le_of_ble_eq_true rfl) rfl lf_X12_293 hj13 ?_
          refine ao_iload_n 1 dX12_said_34 rfl rfl ?_
          obtain ⟨hk14, h⟩ := ao_some h
          obtain ⟨hb15, h⟩ := ao_some h
          refine an_iaload j13 dX12_said_35 hk14 hb15 ?_
          refine ao_goto 45 dX12_said_36 (by decide) ?_
          cases h
          exact ao_ireturn dX12_said_45 rfl rfl ⟨rfl, rfl⟩
      · replace h := ao_ifF h c6
        refine ao_iconst (v := 0) dX12_said_24 (by decide) ?_
        cases h
        exact ao_ireturn dX12_said_25 rfl rfl ⟨rfl, rfl⟩
set_option maxRecDepth 100000 in
set_option maxHeartbeats 4000000 in
theorem aX12_said {Γ : ao_C} (d : Nat) (hd : 1 ≤ d) (n : Nat) (r0 : Nat) (x1 : Int32) (x2 : Int32) (M : ao_M) (ρ : ao_H) {y : Int32 × ao_M} (h : gX12_said n r0 x1 x2 M ρ = some y) : ao_A Γ uX12_said d 0 0 [.ref (Γ.2.2.2 + r0), .int x1, .int x2] (M, ρ) (ao_PI ρ y) := by
  refine ao_of (by decide) (ao_cat1 (Nat.le_of_ble_eq_true rfl)) (Nat.le_of_ble_eq_true rfl) ?_
  show ao_W Γ uX12_said (ao_rm d 0 0) (ao_Q Γ (ao_PI ρ y) 0 0) 0 0 0 [some (.ref (Γ.2.2.2 + r0)), some (.int x1), some (.int x2)] [] (M, ρ)
  exact (wX12_said d hd n).1 r0 x1 x2 M y h

abbrev uX12_readsOf : ao_Mi := (yX12_readsOf, cX12_readsOf, 6, (some .int), [])
def fX12_readsOf : Nat → Nat → Nat → Int32 → Int32 → Int32 → Int32 → Int32 → Int32 →  ao_M → ao_H → Option (Int32 × ao_M)
  | 0, _, _, _, _, _, _, _, _, _, _ => none
  | n + 1, pc, r0, x1, x2, x3, x4, x5, s0, M, ρ =>
    if pc = 0 then
      if ρ.2.1 r0 = 22 then
      (ρ.1 r0 29).bind fun j2 =>
      if ρ.2.1 j2 = 0 then
      if ¬ (x1 < 0 ∨ ρ.2.2.1 j2 ≤ x1.toNatClampNeg) then
      if (M j2 x1.toNatClampNeg) = (3 : Int32) then
        fX12_readsOf n 22 r0 x1 (0 : Int32) 0 0 0 (1 : Int32) M ρ
      else
        (ρ.1 r0 34).bind fun j6 =>
        if ρ.2.1 j6 = 0 then
        if ¬ (x1 < 0 ∨ ρ.2.2.1 j6 ≤ x1.toNatClampNeg) then
        fX12_readsOf n 22 r0 x1 (0 : Int32) 0 0 0 (M j6 x1.toNatClampNeg) M ρ
        else none
        else none
      else none
      else none
      else none
    else if pc = 22 then
      fX12_readsOf n 26 r0 x1 x2 s0 (0 : Int32) 0 0 M ρ
    else if pc = 26 then
      if x3 ≤ x4 then
        some (x2, M)
      else
        fX12_readsOf n 35 r0 x1 x2 x3 x4 (0 : Int32) 0 M ρ
    else if pc = 35 then
      if (26 : Int32) ≤ x5 then
        ao_let (x4 + (1 : Int32)) fun v11 =>
        fX12_readsOf n 26 r0 x1 x2 x3 v11 0 0 M ρ
      else
        if ρ.2.1 r0 = 22 then
        (ρ.1 r0 55).bind fun j13 =>
        (gX12_cell r0 x1 x4 x5 M ρ).bind fun p14 =>
        if ρ.2.1 j13 = 2 then
        if ¬ (p14.1 < 0 ∨ ρ.2.2.1 j13 ≤ p14.1.toNatClampNeg) then
        if (p14.2 j13 p14.1.toNatClampNeg) = 0 then
          fX12_readsOf n 62 r0 x1 x2 x3 x4 x5 0 p14.2 ρ
        else
          ao_let (x2 + (1 : Int32)) fun v18 =>
          fX12_readsOf n 62 r0 x1 v18 x3 x4 x5 0 p14.2 ρ
        else none
        else none
        else none
    else if pc = 62 then
      ao_let (x5 + (1 : Int32)) fun v19 =>
      fX12_readsOf n 35 r0 x1 x2 x3 x4 v19 0 M ρ
    else none
def gX12_readsOf (n : Nat) (r0 : Nat) (x1 : Int32) (M : ao_M) (ρ : ao_H) : Option (Int32 × ao_M) := fX12_readsOf n 0 r0 x1 0 0 0 0 0 M ρ
set_option maxRecDepth 100000 in
set_option maxHeartbeats 4000000 in
theorem wX12_readsOf {Γ : ao_C} {ρ : ao_H} (d : Nat) (hd : 1 ≤ d) : ∀ n : Nat, (∀ (r0 : Nat) (x1 : Int32) (M : ao_M) (y : Int32 × ao_M), fX12_readsOf n 0 r0 x1 0 0 0 0 0 M ρ = some y → ao_W Γ uX12_readsOf (ao_rm d 0 0) (ao_Q Γ (ao_PI ρ y) 0 0) 0 0 0 [some (.ref (Γ.2.2.2 + r0)), some (.int x1), none, none, none, none] [] (M, ρ)) ∧ (∀ (r0 : Nat) (x1 : Int32) (x2 : Int32) (s0 : Int32) (M : ao_M) (y : Int32 × ao_M), fX12_readsOf n 22 r0 x1 x2 0 0 0 s0 M ρ = some y → ao_W Γ uX12_readsOf (ao_rm d 0 0) (ao_Q Γ (ao_PI ρ y) 0 0) 0 0 22 [some (.ref (Γ.2.2.2 + r0)), some (.int x1), some (.int x2), none, none, none] [.int s0] (M, ρ)) ∧ (∀ (r0 : Nat) (x1 : Int32) (x2 : Int32) (x3 : Int32) (x4 : Int32) (M : ao_M) (y : Int32 × ao_M), fX12_readsOf n 26 r0 x1 x2 x3 x4 0 0 M ρ = some y → ao_W Γ uX12_readsOf (ao_rm d 0 0) (ao_Q Γ (ao_PI ρ y) 0 0) 0 0 26 [some (.ref (Γ.2.2.2 + r0)), some (.int x1), some (.int x2), some (.int x3), some (.int x4), none] [] (M, ρ)) ∧ (∀ (r0 : Nat) (x1 : Int32) (x2 : Int32) (x3 : Int32) (x4 : Int32) (x5 : Int32) (M : ao_M) (y : Int32 × ao_M), fX12_readsOf n 35 r0 x1 x2 x3 x4 x5 0 M ρ = some y → ao_W Γ uX12_readsOf (ao_rm d 0 0) (ao_Q Γ (ao_PI ρ y) 0 0) 0 0 35 [some (.ref (Γ.2.2.2 + r0)), some (.int x1), some (.int x2), some (.int x3), some (.int x4), some (.int x5)] [] (M, ρ)) ∧ (∀ (r0 : Nat) (x1 : Int32) (x2 : Int32) (x3 : Int32) (x4 : Int32) (x5 : Int32) (M : ao_M) (y : Int32 × ao_M), fX12_readsOf n 62 r0 x1 x2 x3 x4 x5 0 M ρ = some y → ao_W Γ uX12_readsOf (ao_rm d 0 0) (ao_Q Γ (ao_PI ρ y) 0 0) 0 0 62 [some (.ref (Γ.2.2.2 + r0)), some (.int x1), some (.int x2), some (.int x3), some (.int x4), some (.int x5)] [] (M, ρ)) := by
  intro n
  induction n with
  | zero => exact ⟨fun _ _ _ _ h => ao_no h, fun _ _ _ _ _ _ h => ao_no h, fun _ _ _ _ _ _ _ h => ao_no h, fun _ _ _ _ _ _ _ _ h => ao_no h, fun _ _ _ _ _ _ _ _ h => ao_no h⟩
  | succ n ih =>
    refine ⟨?_, ?_, ?_, ?_, ?_⟩
    · intro r0 x1 M y h
      replace h := ao_ifT h rfl
      refine ao_iconst (v := 0) dX12_readsOf_0 (by decide) ?_
      refine ao_istore_n 2 (lo' := [some (.ref (Γ.2.2.2 + r0)), some (.int x1), some (.int (0 : Int32)), none, none, none]) dX12_readsOf_1 rfl (Nat.le_of_ble_eq_true rfl) rfl ?_
      refine ao_aload_n 0 dX12_readsOf_2 rfl rfl ?_
      obtain ⟨hk1, h⟩ := ao_some h
      obtain ⟨j2, hj2, h⟩ := ao_bind h
      refine an_getR r0 12 29 (q := (RX12, TX12, 83)) dX12_readsOf_3 rfl hk1 (Nat.le_of_ble_eq_true rfl) rfl lf_X12_187 hj2 ?_
      refine ao_iload_n 1 dX12_readsOf_6 rfl rfl ?_
      obtain ⟨hk3, h⟩ := ao_some h
      obtain ⟨hb4, h⟩ := ao_some h
      refine an_iaload j2 dX12_readsOf_7 hk3 hb4 ?_
      refine ao_iconst (v := 3) dX12_readsOf_8 (by decide) ?_
      refine ao_icmp_ne 16 dX12_readsOf_9 (by decide) (fun c5 => ?_) (fun c5 => ?_)
      · replace h := ao_ifF h c5
        refine ao_aload_n 0 dX12_readsOf_16 rfl rfl ?_
        obtain ⟨j6, hj6, h⟩ := ao_bind h
        refine an_getR r0 12 34 (q := (RX12, TX12, 83)) dX12_readsOf_17 rfl hk1 (Nat.le_of_ble_eq_true rfl) rfl lf_X12_202 hj6 ?_
        refine ao_iload_n 1 dX12_readsOf_20 rfl rfl ?_
        obtain ⟨hk7, h⟩ := ao_some h
        obtain ⟨hb8, h⟩ := ao_some h
        refine an_iaload j6 dX12_readsOf_21 hk7 hb8 ?_
        exact ih.2.1 r0 x1 (0 : Int32) (M j6 x1.toNatClampNeg) M _ h
      · replace h := ao_ifT h c5
        refine ao_iconst (v := 1) dX12_readsOf_12 (by decide) ?_
        refine ao_goto 22 dX12_readsOf_13 (by decide) ?_
        exact ih.2.1 r0 x1 (0 : Int32) (1 : Int32) M _ h
    · intro r0 x1 x2 s0 M y h
      replace h := ao_ifF h (by decide)
      replace h := ao_ifT h rfl
      refine ao_istore_n 3 (lo' := [some (.ref (Γ.2.2.2 + r0)), some (.int x1), some (.int x2), some (.int s0), none, none]) dX12_readsOf_22 rfl (Nat.le_of_ble_eq_true rfl) rfl ?_
      refine ao_iconst (v := 0) dX12_readsOf_23 (by decide) ?_
      refine ao_istore 4 (lo' := [some (.ref (Γ.2.2.2 + r0)), some (.int x1), some (.int x2), some (.int s0), some (.int (0 : Int32)), none]) dX12_readsOf_24 (Nat.le_of_ble_eq_true rfl) rfl ?_
      exact ih.2.2.1 r0 x1 x2 s0 (0 : Int32) M _ h
    · intro r0 x1 x2 x3 x4 M y h
      replace h := ao_ifF h (by decide)
      replace h := ao_ifF h (by decide)
      replace h := ao_ifT h rfl
      refine ao_iload 4 dX12_readsOf_26 rfl ?_
      refine ao_iload_n 3 dX12_readsOf_28 rfl rfl ?_
      refine ao_icmp_ge 74 dX12_readsOf_29 (by decide) (fun c9 => ?_) (fun c9 => ?_)
      · replace h := ao_ifT h c9
        refine ao_iload_n 2 dX12_readsOf_74 rfl rfl ?_
        cases h
        exact ao_ireturn dX12_readsOf_75 rfl rfl ⟨rfl, rfl⟩
      · replace h := ao_ifF h c9
        refine ao_iconst (v := 0) dX12_readsOf_32 (by decide) ?_
        refine ao_istore 5 (lo' := [some (.ref (Γ.2.2.2 + r0)), some (.int x1), some (.int x2), some (.int x3), some (.int x4), some (.int (0 : Int32))]) dX12_readsOf_33 (Nat.le_of_ble_eq_true rfl) rfl ?_
        exact ih.2.2.2.1 r0 x1 x2 x3 x4 (0 : Int32) M _ h
    · intro r0 x1 x2 x3 x4 x5 M y h
      replace h := ao_ifF h (by decide)
      replace h := ao_ifF h (by decide)
      replace h := ao_ifF h (by decide)
      replace h := ao_ifT h rfl
      refine ao_iload 5 dX12_readsOf_35 rfl ?_
      refine ao_bipush (v := 26) dX12_readsOf_37 (by decide) ?_
      refine ao_icmp_ge 68 dX12_readsOf_39 (by decide) (fun c10 => ?_) (fun c10 => ?_)
      · replace h := ao_ifT h c10
        obtain ⟨v11, hv11⟩ : ∃ z : Int32, z = x4 + (1 : Int32) := ⟨_, rfl⟩
        replace h := ao_letD h hv11
        refine ao_iinc 4 (v := v11) (lo' := [some (.ref (Γ.2.2.2 + r0)), some (.int x1), some (.int x2), some (.int x3), some (.int v11), some (.int x5)]) dX12_readsOf_68 rfl (by rw [hv11]; rfl) (Nat.le_of_ble_eq_true rfl) rfl ?_
        refine ao_goto 26 dX12_readsOf_71 (by decide) ?_
        refine ao_loForget (lo' := [some (.ref (Γ.2.2.2 + r0)), some (.int x1), some (.int x2), some (.int x3), some (.int v11), none]) (ao_fgS (ao_fgS (ao_fgS (ao_fgS (ao_fgS (ao_fgN ao_fgZ)))))) ?_
        exact ih.2.2.1 r0 x1 x2 x3 v11 M _ h
      · replace h := ao_ifF h c10
        refine ao_aload_n 0 dX12_readsOf_42 rfl rfl ?_
        obtain ⟨hk12, h⟩ := ao_some h
        obtain ⟨j13, hj13, h⟩ := ao_bind h
        refine an_getR r0 12 55 (q := (RX12, TX12, 83)) dX12_readsOf_43 rfl hk12 (Nat.le_of_ble_eq_true rfl) rfl lf_X12_266 hj13 ?_
        refine ao_aload_n 0 dX12_readsOf_46 rfl rfl ?_
        refine ao_iload_n 1 dX12_readsOf_47 rfl rfl ?_
        refine ao_iload 4 dX12_readsOf_48 rfl ?_
        refine ao_iload 5 dX12_readsOf_50 rfl ?_
        obtain ⟨p14, hp14, h⟩ := ao_bind h
        refine an_callVi r0 12 (q := (RX12, TX12, 83)) [.int x1, .int x4, .int x5] (aX12_cell (d - 1) (by omega) r0 x1 x4 x5 M ρ hp14) dX12_readsOf_52 lc_X12_357 li_X12_cell ls_X12_cell rfl hk12 rfl rfl (Nat.le_of_ble_eq_true rfl) (ao_hR (by omega) (by decide)) ?_
        obtain ⟨hk15, h⟩ := ao_some h
        obtain ⟨hb16, h⟩ := ao_some h
        refine an_zaload j13 dX12_readsOf_55 hk15 hb16 ?_
        refine ao_if_eq 62 dX12_readsOf_56 (by decide) (fun c17 => ?_) (fun c17 => ?_)
        · replace h := ao_ifT h c17
          exact ih.2.2.2.2 r0 x1 x2 x3 x4 x5 p14.2 _ h
        · replace h := ao_ifF h c17
          obtain ⟨v18, hv18⟩ : ∃ z : Int32, z = x2 + (1 : Int32) := ⟨_, rfl⟩
          replace h := ao_letD h hv18
          refine ao_iinc 2 (v := v18) (lo' := [some (.ref (Γ.2.2.2 + r0)), some (.int x1), some (.int v18), some (.int x3), some (.int x4), some (.int x5)]) dX12_readsOf_59 rfl (by rw [hv18]; rfl) (Nat.le_of_ble_eq_true rfl) rfl ?_
          exact ih.2.2.2.2 r0 x1 v18 x3 x4 x5 p14.2 _ h
    · intro r0 x1 x2 x3 x4 x5 M y h
      replace h := ao_ifF h (by decide)
      replace h := ao_ifF h (by decide)
      replace h := ao_ifF h (by decide)
      replace h := ao_ifF h (by decide)
      replace h := ao_ifT h rfl
      obtain ⟨v19, hv19⟩ : ∃ z : Int32, z = x5 + (1 : Int32) := ⟨_, rfl⟩
      replace h := ao_letD h hv19
      refine ao_iinc 5 (v := v19) (lo' := [some (.ref (Γ.2.2.2 + r0)), some (.int x1), some (.int x2), some (.int x3), some (.int x4), some (.int v19)]) dX12_readsOf_62 rfl (by rw [hv19]; rfl) (Nat.le_of_ble_eq_true rfl) rfl ?_
      refine ao_goto 35 dX12_readsOf_65 (by decide) ?_
      exact ih.2.2.2.1 r0 x1 x2 x3 x4 v19 M _ h
set_option maxRecDepth 100000 in
set_option maxHeartbeats 4000000 in
theorem aX12_readsOf {Γ : ao_C} (d : Nat) (hd : 1 ≤ d) (n : Nat) (r0 : Nat) (x1 : Int32) (M : ao_M) (ρ : ao_H) {y : Int32 × ao_M} (h : gX12_readsOf n r0 x1 M ρ = some y) : ao_A Γ uX12_readsOf d 0 0 [.ref (Γ.2.2.2 + r0), .int x1] (M, ρ) (ao_PI ρ y) := by
  refine ao_of (by decide) (ao_cat1 (Nat.le_of_ble_eq_true rfl)) (Nat.le_of_ble_eq_true rfl) ?_
  show ao_W Γ uX12_readsOf (ao_rm d 0 0) (ao_Q Γ (ao_PI ρ y) 0 0) 0 0 0 [some (.ref (Γ.2.2.2 + r0)), some (.int x1), none, none, none, none] [] (M, ρ)
  exact (wX12_readsOf d hd n).1 r0 x1 M y h

abbrev uX12_writesOf : ao_Mi := (yX12_writesOf, cX12_writesOf, 4, (some .int), [])
def fX12_writesOf : Nat → Nat → Nat → Int32 → Int32 → Int32 →  ao_M → ao_H → Option (Int32 × ao_M)
  | 0, _, _, _, _, _, _, _ => none
  | n + 1, pc, r0, x1, x2, x3, M, ρ =>
    if pc = 0 then
      fX12_writesOf n 4 r0 x1 (0 : Int32) (0 : Int32) M ρ
    else if pc = 4 then
      if (26 : Int32) ≤ x3 then
        some (x2, M)
      else
        if ρ.2.1 r0 = 22 then
        (gX12_writtenLevel n r0 x1 x3 M ρ).bind fun p3 =>
        if p3.1 < 0 then
          fX12_writesOf n 22 r0 x1 x2 x3 p3.2 ρ
        else
          ao_let (x2 + (1 : Int32)) fun v5 =>
          fX12_writesOf n 22 r0 x1 v5 x3 p3.2 ρ
        else none
    else if pc = 22 then
      ao_let (x3 + (1 : Int32)) fun v6 =>
      fX12_writesOf n 4 r0 x1 x2 v6 M ρ
    else none
def gX12_writesOf (n : Nat) (r0 : Nat) (x1 : Int32) (M : ao_M) (ρ : ao_H) : Option (Int32 × ao_M) := fX12_writesOf n 0 r0 x1 0 0 M ρ
set_option maxRecDepth 100000 in
set_option maxHeartbeats 4000000 in
theorem wX12_writesOf {Γ : ao_C} {ρ : ao_H} (d : Nat) (hd : 2 ≤ d) : ∀ n : Nat, (∀ (r0 : Nat) (x1 : Int32) (M : ao_M) (y : Int32 × ao_M), fX12_writesOf n 0 r0 x1 0 0 M ρ = some y → ao_W Γ uX12_writesOf (ao_rm d 0 0) (ao_Q Γ (ao_PI ρ y) 0 0) 0 0 0 [some (.ref (Γ.2.2.2 + r0)), some (.int x1), none, none] [] (M, ρ)) ∧ (∀ (r0 : Nat) (x1 : Int32) (x2 : Int32) (x3 : Int32) (M : ao_M) (y : Int32 × ao_M), fX12_writesOf n 4 r0 x1 x2 x3 M ρ = some y → ao_W Γ uX12_writesOf (ao_rm d 0 0) (ao_Q Γ (ao_PI ρ y) 0 0) 0 0 4 [some (.ref (Γ.2.2.2 + r0)), some (.int x1), some (.int x2), some (.int x3)] [] (M, ρ)) ∧ (∀ (r0 : Nat) (x1 : Int32) (x2 : Int32) (x3 : Int32) (M : ao_M) (y : Int32 × ao_M), fX12_writesOf n 22 r0 x1 x2 x3 M ρ = some y → ao_W Γ uX12_writesOf (ao_rm d 0 0) (ao_Q Γ (ao_PI ρ y) 0 0) 0 0 22 [some (.ref (Γ.2.2.2 + r0)), some (.int x1), some (.int x2), some (.int x3)] [] (M, ρ)) := by
  intro n
  induction n with
  | zero => exact ⟨fun _ _ _ _ h => ao_no h, fun _ _ _ _ _ _ h => ao_no h, fun _ _ _ _ _ _ h => ao_no h⟩
  | succ n ih =>
    refine ⟨?_, ?_, ?_⟩
    · intro r0 x1 M y h
      replace h := ao_ifT h rfl
      refine ao_iconst (v := 0) dX12_writesOf_0 (by decide) ?_
      refine ao_istore_n 2 (lo' := [some (.ref (Γ.2.2.2 + r0)), some (.int x1), some (.int (0 : Int32)), none]) dX12_writesOf_1 rfl (Nat.le_of_ble_eq_true rfl) rfl ?_
      refine ao_iconst (v := 0) dX12_writesOf_2 (by decide) ?_
      refine ao_istore_n 3 (lo' := [some (.ref (Γ.2.2.2 + r0)), some (.int x1), some (.int (0 : Int32)), some (.int (0 : Int32))]) dX12_writesOf_3 rfl (Nat.le_of_ble_eq_true rfl) rfl ?_
      exact ih.2.1 r0 x1 (0 : Int32) (0 : Int32) M _ h
    · intro r0 x1 x2 x3 M y h
      replace h := ao_ifF h (by decide)
      replace h := ao_ifT h rfl
      refine ao_iload_n 3 dX12_writesOf_4 rfl rfl ?_
      refine ao_bipush (v := 26) dX12_writesOf_5 (by decide) ?_
      refine ao_icmp_ge 28 dX12_writesOf_7 (by decide) (fun c1 => ?_) (fun c1 => ?_)
      · replace h := ao_ifT h c1
        refine ao_iload_n 2 dX12_writesOf_28 rfl rfl ?_
        cases h
        exact ao_ireturn dX12_writesOf_29 rfl rfl ⟨rfl, rfl⟩
      · replace h := ao_ifF h c1
        refine ao_aload_n 0 dX12_writesOf_10 rfl rfl ?_
        refine ao_iload_n 1 dX12_writesOf_11 rfl rfl ?_
        refine ao_iload_n 3 dX12_writesOf_12 rfl rfl ?_
        obtain ⟨hk2, h⟩ := ao_some h
        obtain ⟨p3, hp3, h⟩ := ao_bind h
        refine an_callVi r0 12 (q := (RX12, TX12, 83)) [.int x1, .int x3] (aX12_writtenLevel (d - 1) (by omega) _ r0 x1 x3 M ρ hp3) dX12_writesOf_13 lc_X12_402 li_X12_writtenLevel ls_X12_writtenLevel rfl hk2 rfl rfl (Nat.le_of_ble_eq_true rfl) (ao_hR (by omega) (by decide)) ?_
        refine ao_if_lt 22 dX12_writesOf_16 (by decide) (fun c4 => ?_) (fun c4 => ?_)
        · replace h := ao_ifT h c4
          exact ih.2.2 r0 x1 x2 x3 p3.2 _ h
        · replace h := ao_ifF h c4
          obtain ⟨v5, hv5⟩ : ∃ z : Int32, z = x2 + (1 : Int32) := ⟨_, rfl⟩
          replace h := ao_letD h hv5
          refine ao_iinc 2 (v := v5) (lo' := [some (.ref (Γ.2.2.2 + r0)), some (.int x1), some (.int v5), some (.int x3)]) dX12_writesOf_19 rfl (by rw [hv5]; rfl) (Nat.le_of_ble_eq_true rfl) rfl ?_
          exact ih.2.2 r0 x1 v5 x3 p3.2 _ h
    · intro r0 x1 x2 x3 M y h
      replace h := ao_ifF h (by decide)
      replace h := ao_ifF h (by decide)
      replace h := ao_ifT h rfl
      obtain ⟨v6, hv6⟩ : ∃ z : Int32, z = x3 + (1 : Int32) := ⟨_, rfl⟩
      replace h := ao_letD h hv6
      refine ao_iinc 3 (v := v6) (lo' := [some (.ref (Γ.2.2.2 + r0)), some (.int x1), some (.int x2), some (.int v6)]) dX12_writesOf_22 rfl (by rw [hv6]; rfl) (Nat.le_of_ble_eq_true rfl) rfl ?_
      refine ao_goto 4 dX12_writesOf_25 (by decide) ?_
      exact ih.2.1 r0 x1 x2 v6 M _ h
set_option maxRecDepth 100000 in
set_option maxHeartbeats 4000000 in
theorem aX12_writesOf {Γ : ao_C} (d : Nat) (hd : 2 ≤ d) (n : Nat) (r0 : Nat) (x1 : Int32) (M : ao_M) (ρ : ao_H) {y : Int32 × ao_M} (h : gX12_writesOf n r0 x1 M ρ = some y) : ao_A Γ uX12_writesOf d 0 0 [.ref (Γ.2.2.2 + r0), .int x1] (M, ρ) (ao_PI ρ y) := by
  refine ao_of (by decide) (ao_cat1 (Nat.le_of_ble_eq_true rfl)) (Nat.le_of_ble_eq_true rfl) ?_
  show ao_W Γ uX12_writesOf (ao_rm d 0 0) (ao_Q Γ (ao_PI ρ y) 0 0) 0 0 0 [some (.ref (Γ.2.2.2 + r0)), some (.int x1), none, none] [] (M, ρ)
  exact (wX12_writesOf d hd n).1 r0 x1 M y h

abbrev uX12_look : ao_Mi := (yX12_look, cX12_look, 3, (some .int), [])
def fX12_look : Nat → Nat → Nat → Int32 → Int32 → Nat → Int32 → Nat →  ao_M → ao_H → Option (Int32 × ao_M)
  | 0, _, _, _, _, _, _, _, _, _ => none
  | n + 1, pc, r0, x1, x2, q0, s0, q1, M, ρ =>
    if pc = 0 then
      (gX12_isThread x1 M ρ).bind fun p1 =>
      if p1.1 = 0 then
        fX12_look n 18 r0 x1 x2 r0 0 0 p1.2 ρ
      else
        if x2 < 0 then
          fX12_look n 18 r0 x1 x2 r0 0 0 p1.2 ρ
        else
          if x2 ≤ (7 : Int32) then
            fX12_look n 23 r0 x1 x2 0 (0 : Int32) r0 p1.2 ρ
          else
            fX12_look n 18 r0 x1 x2 r0 0 0 p1.2 ρ
    else if pc = 18 then
      fX12_look n 23 r0 x1 x2 0 (1 : Int32) q0 M ρ
    else if pc = 23 then
      if ρ.2.1 q1 = 22 then
      (gX12_fails q1 s0 M ρ).bind fun p6 =>
      if p6.1 = 0 then
        if x2 = (0 : Int32) then
          if ρ.2.1 r0 = 22 then
          (ρ.1 r0 29).bind fun j10 =>
          if ρ.2.1 j10 = 0 then
          if ¬ (x1 < 0 ∨ ρ.2.2.1 j10 ≤ x1.toNatClampNeg) then
          some ((p6.2 j10 x1.toNatClampNeg), p6.2)
          else none
          else none
          else none
        else
          if x2 = (1 : Int32) then
            if ρ.2.1 r0 = 22 then
            (ρ.1 r0 34).bind fun j15 =>
            if ρ.2.1 j15 = 0 then
            if ¬ (x1 < 0 ∨ ρ.2.2.1 j15 ≤ x1.toNatClampNeg) then
            some ((p6.2 j15 x1.toNatClampNeg), p6.2)
            else none
            else none
            else none
          else
            if x2 = (2 : Int32) then
              if ρ.2.1 r0 = 22 then
              (gX12_readsOf n r0 x1 p6.2 ρ).bind fun p20 =>
              some (p20.1, p20.2)
              else none
            else
              if x2 = (3 : Int32) then
                if ρ.2.1 r0 = 22 then
                (gX12_writesOf n r0 x1 p6.2 ρ).bind fun p23 =>
                some (p23.1, p23.2)
                else none
              else
                if x2 = (4 : Int32) then
                  if ρ.2.1 r0 = 22 then
                  (ρ.1 r0 37).bind fun j26 =>
                  if ρ.2.1 j26 = 0 then
                  if ¬ (x1 < 0 ∨ ρ.2.2.1 j26 ≤ x1.toNatClampNeg) then
                  some ((p6.2 j26 x1.toNatClampNeg), p6.2)
                  else none
                  else none
                  else none
                else
                  if x2 = (5 : Int32) then
                    if ρ.2.1 r0 = 22 then
                    (ρ.1 r0 29).bind fun j31 =>
                    if ρ.2.1 j31 = 0 then
                    if ¬ (x1 < 0 ∨ ρ.2.2.1 j31 ≤ x1.toNatClampNeg) then
                    if (p6.2 j31 x1.toNatClampNeg) = (2 : Int32) then
                      (ρ.1 r0 38).bind fun j35 =>
                      if ρ.2.1 j35 = 0 then
                      if ¬ (x1 < 0 ∨ ρ.2.2.1 j35 ≤ x1.toNatClampNeg) then
                      some ((p6.2 j35 x1.toNatClampNeg), p6.2)
                      else none
                      else none
                    else
                      some ((0 : Int32), p6.2)
                    else none
                    else none
                    else none
                  else
                    if x2 = (6 : Int32) then
                      if ρ.2.1 r0 = 22 then
                      (ρ.1 r0 39).bind fun j40 =>
                      if ρ.2.1 j40 = 0 then
                      if ¬ (x1 < 0 ∨ ρ.2.2.1 j40 ≤ x1.toNatClampNeg) then
                      some ((p6.2 j40 x1.toNatClampNeg), p6.2)
                      else none
                      else none
                      else none
                    else
                      if ρ.2.1 r0 = 22 then
                      (ρ.1 r0 40).bind fun j44 =>
                      if ρ.2.1 j44 = 0 then
                      if ¬ (x1 < 0 ∨ ρ.2.2.1 j44 ≤ x1.toNatClampNeg) then
                      some ((p6.2 j44 x1.toNatClampNeg), p6.2)
                      else none
                      else none
                      else none
      else
        some ((0 : Int32), p6.2)
      else none
    else none
def gX12_look (n : Nat) (r0 : Nat) (x1 : Int32) (x2 : Int32) (M : ao_M) (ρ : ao_H) : Option (Int32 × ao_M) := fX12_look n 0 r0 x1 x2 0 0 0 M ρ
set_option maxRecDepth 100000 in
set_option maxHeartbeats 4000000 in
theorem wX12_look {Γ : ao_C} {ρ : ao_H} (d : Nat) (hd : 3 ≤ d) : ∀ n : Nat, (∀ (r0 : Nat) (x1 : Int32) (x2 : Int32) (M : ao_M) (y : Int32 × ao_M), fX12_look n 0 r0 x1 x2 0 0 0 M ρ = some y → ao_W Γ uX12_look (ao_rm d 0 0) (ao_Q Γ (ao_PI ρ y) 0 0) 0 0 0 [some (.ref (Γ.2.2.2 + r0)), some (.int x1), some (.int x2)] [] (M, ρ)) ∧ (∀ (r0 : Nat) (x1 : Int32) (x2 : Int32) (q0 : Nat) (M : ao_M) (y : Int32 × ao_M), fX12_look n 18 r0 x1 x2 q0 0 0 M ρ = some y → ao_W Γ uX12_look (ao_rm d 0 0) (ao_Q Γ (ao_PI ρ y) 0 0) 0 0 18 [some (.ref (Γ.2.2.2 + r0)), some (.int x1), some (.int x2)] [.ref (Γ.2.2.2 + q0)] (M, ρ)) ∧ (∀ (r0 : Nat) (x1 : Int32) (x2 : Int32) (s0 : Int32) (q1 : Nat) (M : ao_M) (y : Int32 × ao_M), fX12_look n 23 r0 x1 x2 0 s0 q1 M ρ = some y → ao_W Γ uX12_look (ao_rm d 0 0) (ao_Q Γ (ao_PI ρ y) 0 0) 0 0 23 [some (.ref (Γ.2.2.2 + r0)), some (.int x1), some (.int x2)] [.int s0, .ref (Γ.2.2.2 + q1)] (M, ρ)) := by
  intro n
  induction n with
  | zero => exact ⟨fun _ _ _ _ _ h => ao_no h, fun _ _ _ _ _ _ h => ao_no h, fun _ _ _ _ _ _ _ h => ao_no h⟩
  | succ n ih =>
    refine ⟨?_, ?_, ?_⟩
    · intro r0 x1 x2 M y h
      replace h := ao_ifT h rfl
      refine ao_aload_n 0 dX12_look_0 rfl rfl ?_
      refine ao_iload_n 1 dX12_look_1 rfl rfl ?_
      obtain ⟨p1, hp1, h⟩ := ao_bind h
      refine an_callSi [.int x1] (aX12_isThread (d - 1) (by omega) x1 M ρ hp1) dX12_look_2 lc_X12_503 lt_X12_isThread rfl rfl (Nat.le_of_ble_eq_true rfl) (ao_hR (by omega) (by decide)) ?_
      refine ao_if_eq 18 dX12_look_5 (by decide) (fun c2 => ?_) (fun c2 => ?_)
      · replace h := ao_ifT h c2
        exact ih.2.1 r0 x1 x2 r0 p1.2 _ h
      · replace h := ao_ifF h c2
        refine ao_iload_n 2 dX12_look_8 rfl rfl ?_
        refine ao_if_lt 18 dX12_look_9 (by decide) (fun c3 => ?_) (fun c3 => ?_)
        · replace h := ao_ifT h c3
          exact ih.2.1 r0 x1 x2 r0 p1.2 _ h
        · replace h := ao_ifF h c3
          refine ao_iload_n 2 dX12_look_12 rfl rfl ?_
          refine ao_bipush (v := 7) dX12_look_13 (by decide) ?_
          refine ao_icmp_le 22 dX12_look_15 (by decide) (fun c4 => ?_) (fun c4 => ?_)
          · replace h := ao_ifT h c4
            refine ao_iconst (v := 0) dX12_look_22 (by decide) ?_
            exact ih.2.2 r0 x1 x2 (0 : Int32) r0 p1.2 _ h
          · replace h := ao_ifF h c4
            exact ih.2.1 r0 x1 x2 r0 p1.2 _ h
    · intro r0 x1 x2 q0 M y h
      replace h := ao_ifF h (by decide)
      replace h := ao_ifT h rfl
      refine ao_iconst (v := 1) dX12_look_18 (by decide) ?_
      refine ao_goto 23 dX12_look_19 (by decide) ?_
      exact ih.2.2 r0 x1 x2 (1 : Int32) q0 M _ h
    · intro r0 x1 x2 s0 q1 M y h
      replace h := ao_ifF h (by decide)
      replace h := ao_ifF h (by decide)
      replace h := ao_ifT h rfl
      obtain ⟨hk5, h⟩ := ao_some h
      obtain ⟨p6, hp6, h⟩ := ao_bind h
      refine an_callVi q1 12 (q := (RX12, TX12, 83)) [.int s0] (aX12_fails (d - 1) (by omega) q1 s0 M ρ hp6) dX12_look_23 lc_X12_497 li_X12_fails ls_X12_fails rfl hk5 rfl rfl (Nat.le_of_ble_eq_true rfl) (ao_hR (by omega) (by decide)) ?_
      refine ao_if_eq 31 dX12_look_26 (by decide) (fun c7 => ?_) (fun c7 => ?_)
      · replace h := ao_ifT h c7
        refine ao_iload_n 2 dX12_look_31 rfl rfl ?_
        by_cases c8 : x2 = (0 : Int32)
        · replace h := ao_ifT h c8
          refine ao_tableIn 76 dX12_look_32 (by rw [c8]; decide) (by rw [c8]; decide) (by rw [c8]; rfl) (by decide) ?_
          refine ao_aload_n 0 dX12_look_76 rfl rfl ?_
          obtain ⟨hk9, h⟩ := ao_some h
          obtain ⟨j10, hj10, h⟩ := ao_bind h
          refine an_getR r0 12 29 (q := (RX12, TX12, 83)) dX12_look_77 rfl hk9 (Nat.le_of_ble_eq_true rfl) rfl lf_X12_187 hj10 ?_
          refine ao_iload_n 1 dX12_look_80 rfl rfl ?_
          obtain ⟨hk11, h⟩ := ao_some h
          obtain ⟨hb12, h⟩ := ao_some h
          refine an_iaload j10 dX12_look_81 hk11 hb12 ?_
          cases h
          exact ao_ireturn dX12_look_82 rfl rfl ⟨rfl, rfl⟩
        · replace h := ao_ifF h c8
          by_cases c13 : x2 = (1 : Int32)
          · replace h := ao_ifT h c13
            refine ao_tableIn 83 dX12_look_32 (by rw [c13]; decide) (by rw [c13]; decide) (by rw [c13]; rfl) (by decide) ?_
            refine ao_aload_n 0 dX12_look_83 rfl rfl ?_
            obtain ⟨hk14, h⟩ := ao_some h
            obtain ⟨j15, hj15, h⟩ := ao_bind h
            refine an_getR r0 12 34 (q := (RX12, TX12, 83)) dX12_look_84 rfl hk14 (Nat.le_of_ble_eq_true rfl) rfl lf_X12_202 hj15 ?_
            refine ao_iload_n 1 dX12_look_87 rfl rfl ?_
            obtain ⟨hk16, h⟩ := ao_some h
            obtain ⟨hb17, h⟩ := ao_some h
            refine an_iaload j15 dX12_look_88 hk16 hb17 ?_
            cases h
            exact ao_ireturn dX12_look_89 rfl rfl ⟨rfl, rfl⟩
          · replace h := ao_ifF h c13
            by_cases c18 : x2 = (2 : Int32)
            · replace h := ao_ifT h c18
              refine ao_tableIn 90 dX12_look_32 (by rw [c18]; decide) (by rw [c18]; decide) (by rw [c18]; rfl) (by decide) ?_
              refine ao_aload_n 0 dX12_look_90 rfl rfl ?_
              refine ao_iload_n 1 dX12_look_91 rfl rfl ?_
              obtain ⟨hk19, h⟩ := ao_some h
              obtain ⟨p20, hp20, h⟩ := ao_bind h
              refine an_callVi r0 12 (q := (RX12, TX12, 83)) [.int x1] (aX12_readsOf (d - 1) (by omega) _ r0 x1 p6.2 ρ hp20) dX12_look_92 lc_X12_518 li_X12_readsOf ls_X12_readsOf rfl hk19 rfl rfl (Nat.le_of_ble_eq_true rfl) (ao_hR (by omega) (by decide)) ?_
              cases h
              exact ao_ireturn dX12_look_95 rfl rfl ⟨rfl, rfl⟩
            · replace h := ao_ifF h c18
              by_cases c21 : x2 = (3 : Int32)
              · replace h := ao_ifT h c21
                refine ao_tableIn 96 dX12_look_32 (by rw [c21]; decide) (by rw [c21]; decide) (by rw [c21]; rfl) (by decide) ?_
                refine ao_aload_n 0 dX12_look_96 rfl rfl ?_
                refine ao_iload_n 1 dX12_look_97 rfl rfl ?_
                obtain ⟨hk22, h⟩ := ao_some h
                obtain ⟨p23, hp23, h⟩ := ao_bind h
                refine an_callVi r0 12 (q := (RX12, TX12, 83)) [.int x1] (aX12_writesOf (d - 1) (by omega) _ r0 x1 p6.2 ρ hp23) dX12_look_98 lc_X12_521 li_X12_writesOf ls_X12_writesOf rfl hk22 rfl rfl (Nat.le_of_ble_eq_true rfl) (ao_hR (by omega) (by decide)) ?_
                cases h
                exact ao_ireturn dX12_look_101 rfl rfl ⟨rfl, rfl⟩
              · replace h := ao_ifF h c21
                by_cases c24 : x2 = (4 : Int32)
                · replace h := ao_ifT h c24
                  refine ao_tableIn 102 dX12_look_32 (by rw [c24]; decide) (by rw [c24]; decide) (by rw [c24]; rfl) (by decide) ?_
                  refine ao_aload_n 0 dX12_look_102 rfl rfl ?_
                  obtain ⟨hk25, h⟩ := ao_some h
                  obtain ⟨j26, hj26, h⟩ := ao_bind h
                  refine an_getR r0 12 37 (q := (RX12, TX12, 83)) dX12_look_103 rfl hk25 (Nat.le_of_ble_eq_true rfl) rfl lf_X12_211 hj26 ?_
                  refine ao_iload_n 1 dX12_look_106 rfl rfl ?_
                  obtain ⟨hk27, h⟩ := ao_some h
                  obtain ⟨hb28, h⟩ := ao_some h
                  refine an_iaload j26 dX12_look_107 hk27 hb28 ?_
                  cases h
                  exact ao_ireturn dX12_look_108 rfl rfl ⟨rfl, rfl⟩
                · replace h := ao_ifF h c24
                  by_cases c29 : x2 = (5 : Int32)
                  · replace h := ao_ifT h c29
                    refine ao_tableIn 109 dX12_look_32 (by rw [c29]; decide) (by rw [c29]; decide) (by rw [c29]; rfl) (by decide) ?_
                    refine ao_aload_n 0 dX12_look_109 rfl rfl ?_
                    obtain ⟨hk30, h⟩ := ao_some h
                    obtain ⟨j31, hj31, h⟩ := ao_bind h
                    refine an_getR r0 12 29 (q := (RX12, TX12, 83)) dX12_look_110 rfl hk30 (Nat.le_of_ble_eq_true rfl) rfl lf_X12_187 hj31 ?_
                    refine ao_iload_n 1 dX12_look_113 rfl rfl ?_
                    obtain ⟨hk32, h⟩ := ao_some h
                    obtain ⟨hb33, h⟩ := ao_some h
                    refine an_iaload j31 dX12_look_114 hk32 hb33 ?_
                    refine ao_iconst (v := 2) dX12_look_115 (by decide) ?_
                    refine ao_icmp_ne 128 dX12_look_116 (by decide) (fun c34 => ?_) (fun c34 => ?_)
                    · replace h := ao_ifF h c34
                      refine ao_iconst (v := 0) dX12_look_128 (by decide) ?_
                      cases h
                      exact ao_ireturn dX12_look_129 rfl rfl ⟨rfl, rfl⟩
                    · replace h := ao_ifT h c34
                      refine ao_aload_n 0 dX12_look_119 rfl rfl ?_
                      obtain ⟨j35, hj35, h⟩ := ao_bind h
                      refine an_getR r0 12 38 (q := (RX12, TX12, 83)) dX12_look_120 rfl hk30 (Nat.le_of_ble_eq_true rfl) rfl lf_X12_214 hj35 ?_
                      refine ao_iload_n 1 dX12_look_123 rfl rfl ?_
                      obtain ⟨hk36, h⟩ := ao_some h
                      obtain ⟨hb37, h⟩ := ao_some h
                      refine an_iaload j35 dX12_look_124 hk36 hb37 ?_
                      refine ao_goto 129 dX12_look_125 (by decide) ?_
                      cases h
                      exact ao_ireturn dX12_look_129 rfl rfl ⟨rfl, rfl⟩
                  · replace h := ao_ifF h c29
                    by_cases c38 : x2 = (6 : Int32)
                    · replace h := ao_ifT h c38
                      refine ao_tableIn 130 dX12_look_32 (by rw [c38]; decide) (by rw [c38]; decide) (by rw [c38]; rfl) (by decide) ?_
                      refine ao_aload_n 0 dX12_look_130 rfl rfl ?_
                      obtain ⟨hk39, h⟩ := ao_some h
                      obtain ⟨j40, hj40, h⟩ := ao_bind h
                      refine an_getR r0 12 39 (q := (RX12, TX12, 83)) dX12_look_131 rfl hk39 (Nat.le_of_ble_eq_true rfl) rfl lf_X12_217 hj40 ?_
                      refine ao_iload_n 1 dX12_look_134 rfl rfl ?_
                      obtain ⟨hk41, h⟩ := ao_some h
                      obtain ⟨hb42, h⟩ := ao_some h
                      refine an_iaload j40 dX12_look_135 hk41 hb42 ?_
                      cases h
                      exact ao_ireturn dX12_look_136 rfl rfl ⟨rfl, rfl⟩
                    · replace h := ao_ifF h c38
                      refine ao_tableOut 137 dX12_look_32 (by have nc8 := ao_ne (z := 0) c8 (by decide); have nc13 := ao_ne (z := 1) c13 (by decide); have nc18 := ao_ne (z := 2) c18 (by decide); have nc21 := ao_ne (z := 3) c21 (by decide); have nc24 := ao_ne (z := 4) c24 (by decide); have nc29 := ao_ne (z := 5) c29 (by decide); have nc38 := ao_ne (z := 6) c38 (by decide); omega) (by decide) ?_
                      refine ao_aload_n 0 dX12_look_137 rfl rfl ?_
                      obtain ⟨hk43, h⟩ := ao_some h
                      obtain ⟨j44, hj44, h⟩ := ao_bind h
                      refine an_getR r0 12 40 (q := (RX12, TX12, 83)) dX12_look_138 rfl hk43 (Nat.le_of_ble_eq_true rfl) rfl lf_X12_220 hj44 ?_
                      refine ao_iload_n 1 dX12_look_141 rfl rfl ?_
                      obtain ⟨hk45, h⟩ := ao_some h
                      obtain ⟨hb46, h⟩ := ao_some h
                      refine an_iaload j44 dX12_look_142 hk45 hb46 ?_
                      cases h
                      exact ao_ireturn dX12_look_143 rfl rfl ⟨rfl, rfl⟩
      · replace h := ao_ifF h c7
        refine ao_iconst (v := 0) dX12_look_29 (by decide) ?_
        cases h
        exact ao_ireturn dX12_look_30 rfl rfl ⟨rfl, rfl⟩
set_option maxRecDepth 100000 in
set_option maxHeartbeats 4000000 in
theorem aX12_look {Γ : ao_C} (d : Nat) (hd : 3 ≤ d) (n : Nat) (r0 : Nat) (x1 : Int32) (x2 : Int32) (M : ao_M) (ρ : ao_H) {y : Int32 × ao_M} (h : gX12_look n r0 x1 x2 M ρ = some y) : ao_A Γ uX12_look d 0 0 [.ref (Γ.2.2.2 + r0), .int x1, .int x2] (M, ρ) (ao_PI ρ y) := by
  refine ao_of (by decide) (ao_cat1 (Nat.le_of_ble_eq_true rfl)) (Nat.le_of_ble_eq_true rfl) ?_
  show ao_W Γ uX12_look (ao_rm d 0 0) (ao_Q Γ (ao_PI ρ y) 0 0) 0 0 0 [some (.ref (Γ.2.2.2 + r0)), some (.int x1), some (.int x2)] [] (M, ρ)
  exact (wX12_look d hd n).1 r0 x1 x2 M y h

abbrev uX12_mayCome : ao_Mi := (yX12_mayCome, cX12_mayCome, 4, (some .boolean), [])
def fX12_mayCome : Nat → Nat → Nat → Int32 → Int32 → Int32 →  ao_M → ao_H → Option (Int32 × ao_M)
  | 0, _, _, _, _, _, _, _ => none
  | n + 1, pc, r0, x1, x2, x3, M, ρ =>
    if pc = 0 then
      if ρ.2.1 r0 = 22 then
      (ρ.1 r0 81).bind fun j2 =>
      if ρ.2.1 j2 = 2 then
      if ¬ (x1 < 0 ∨ ρ.2.2.1 j2 ≤ x1.toNatClampNeg) then
      if (M j2 x1.toNatClampNeg) = 0 then
        fX12_mayCome n 13 r0 x1 x2 (0 : Int32) M ρ
      else
        some ((0 : Int32), M)
      else none
      else none
      else none
    else if pc = 13 then
      if ρ.2.1 r0 = 22 then
      if (M r0 76) ≤ x3 then
        fX12_mayCome n 60 r0 x1 x2 (0 : Int32) M ρ
      else
        (ρ.1 r0 81).bind fun j8 =>
        if ρ.2.1 j8 = 2 then
        if ¬ (x3 < 0 ∨ ρ.2.2.1 j8 ≤ x3.toNatClampNeg) then
        if (M j8 x3.toNatClampNeg) = 0 then
          if x3 = x1 then
            fX12_mayCome n 52 r0 x1 x2 x3 M ρ
          else
            (ρ.1 r0 71).bind fun j13 =>
            if ρ.2.1 j13 = 0 then
            if ¬ (x3 < 0 ∨ ρ.2.2.1 j13 ≤ x3.toNatClampNeg) then
            (ρ.1 r0 70).bind fun j16 =>
            if ρ.2.1 j16 = 0 then
            if ¬ (x1 < 0 ∨ ρ.2.2.1 j16 ≤ x1.toNatClampNeg) then
            if (M j16 x1.toNatClampNeg) ≤ (M j13 x3.toNatClampNeg) then
              fX12_mayCome n 52 r0 x1 x2 x3 M ρ
            else
              some ((0 : Int32), M)
            else none
            else none
            else none
            else none
        else
          fX12_mayCome n 52 r0 x1 x2 x3 M ρ
        else none
        else none
      else none
    else if pc = 52 then
      ao_let (x3 + (1 : Int32)) fun v20 =>
      fX12_mayCome n 13 r0 x1 x2 v20 M ρ
    else if pc = 60 then
      if (26 : Int32) ≤ x3 then
        some ((1 : Int32), M)
      else
        if ρ.2.1 r0 = 22 then
        (ρ.1 r0 74).bind fun j23 =>
        if ρ.2.1 j23 = 2 then
        if ¬ (((x1 * (26 : Int32)) + x3) < 0 ∨ ρ.2.2.1 j23 ≤ ((x1 * (26 : Int32)) + x3).toNatClampNeg) then
        if (M j23 ((x1 * (26 : Int32)) + x3).toNatClampNeg) = 0 then
          fX12_mayCome n 107 r0 x1 x2 x3 M ρ
        else
          (ρ.1 r0 72).bind fun j27 =>
          if ρ.2.1 j27 = 0 then
          if ¬ (((x1 * (26 : Int32)) + x3) < 0 ∨ ρ.2.2.1 j27 ≤ ((x1 * (26 : Int32)) + x3).toNatClampNeg) then
          (ρ.1 r0 80).bind fun j30 =>
          if ρ.2.1 j30 = 0 then
          if ¬ (((x2 * (26 : Int32)) + x3) < 0 ∨ ρ.2.2.1 j30 ≤ ((x2 * (26 : Int32)) + x3).toNatClampNeg) then
          if (M j27 ((x1 * (26 : Int32)) + x3).toNatClampNeg) = (M j30 ((x2 * (26 : Int32)) + x3).toNatClampNeg) then
            fX12_mayCome n 107 r0 x1 x2 x3 M ρ
          else
            some ((0 : Int32), M)
          else none
          else none
          else none
          else none
        else none
        else none
        else none
    else if pc = 107 then
      ao_let (x3 + (1 : Int32)) fun v34 =>
      fX12_mayCome n 60 r0 x1 x2 v34 M ρ
    else none
def gX12_mayCome (n : Nat) (r0 : Nat) (x1 : Int32) (x2 : Int32) (M : ao_M) (ρ : ao_H) : Option (Int32 × ao_M) := fX12_mayCome n 0 r0 x1 x2 0 M ρ
set_option maxRecDepth 100000 in
set_option maxHeartbeats 4000000 in
theorem wX12_mayCome {Γ : ao_C} {ρ : ao_H} (d : Nat) (hd : 0 ≤ d) : ∀ n : Nat, (∀ (r0 : Nat) (x1 : Int32) (x2 : Int32) (M : ao_M) (y : Int32 × ao_M), fX12_mayCome n 0 r0 x1 x2 0 M ρ = some y → ao_W Γ uX12_mayCome (ao_rm d 0 0) (ao_Q Γ (ao_PI ρ y) 0 0) 0 0 0 [some (.ref (Γ.2.2.2 + r0)), some (.int x1), some (.int x2), none] [] (M, ρ)) ∧ (∀ (r0 : Nat) (x1 : Int32) (x2 : Int32) (x3 : Int32) (M : ao_M) (y : Int32 × ao_M), fX12_mayCome n 13 r0 x1 x2 x3 M ρ = some y → ao_W Γ uX12_mayCome (ao_rm d 0 0) (ao_Q Γ (ao_PI ρ y) 0 0) 0 0 13 [some (.ref (Γ.2.2.2 + r0)), some (.int x1), some (.int x2), some (.int x3)] [] (M, ρ)) ∧ (∀ (r0 : Nat) (x1 : Int32) (x2 : Int32) (x3 : Int32) (M : ao_M) (y : Int32 × ao_M), fX12_mayCome n 52 r0 x1 x2 x3 M ρ = some y → ao_W Γ uX12_mayCome (ao_rm d 0 0) (ao_Q Γ (ao_PI ρ y) 0 0) 0 0 52 [some (.ref (Γ.2.2.2 + r0)), some (.int x1), some (.int x2), some (.int x3)] [] (M, ρ)) ∧ (∀ (r0 : Nat) (x1 : Int32) (x2 : Int32) (x3 : Int32) (M : ao_M) (y : Int32 × ao_M), fX12_mayCome n 60 r0 x1 x2 x3 M ρ = some y → ao_W Γ uX12_mayCome (ao_rm d 0 0) (ao_Q Γ (ao_PI ρ y) 0 0) 0 0 60 [some (.ref (Γ.2.2.2 + r0)), some (.int x1), some (.int x2), some (.int x3)] [] (M, ρ)) ∧ (∀ (r0 : Nat) (x1 : Int32) (x2 : Int32) (x3 : Int32) (M : ao_M) (y : Int32 × ao_M), fX12_mayCome n 107 r0 x1 x2 x3 M ρ = some y → ao_W Γ uX12_mayCome (ao_rm d 0 0) (ao_Q Γ (ao_PI ρ y) 0 0) 0 0 107 [some (.ref (Γ.2.2.2 + r0)), some (.int x1), some (.int x2), some (.int x3)] [] (M, ρ)) := by
  intro n
  induction n with
  | zero => exact ⟨fun _ _ _ _ _ h => ao_no h, fun _ _ _ _ _ _ h => ao_no h, fun _ _ _ _ _ _ h => ao_no h, fun _ _ _ _ _ _ h => ao_no h, fun _ _ _ _ _ _ h => ao_no h⟩
  | succ n ih =>
    refine ⟨?_, ?_, ?_, ?_, ?_⟩
    · intro r0 x1 x2 M y h
      replace h := ao_ifT h rfl
      refine ao_aload_n 0 dX12_mayCome_0 rfl rfl ?_
      obtain ⟨hk1, h⟩ := ao_some h
      obtain ⟨j2, hj2, h⟩ := ao_bind h
      refine an_getR r0 12 81 (q := (RX12, TX12, 83)) dX12_mayCome_1 rfl hk1 (Nat.le_of_ble_eq_true rfl) rfl lf_X12_326 hj2 ?_
      refine ao_iload_n 1 dX12_mayCome_4 rfl rfl ?_
      obtain ⟨hk3, h⟩ := ao_some h
      obtain ⟨hb4, h⟩ := ao_some h
      refine an_zaload j2 dX12_mayCome_5 hk3 hb4 ?_
      refine ao_if_eq 11 dX12_mayCome_6 (by decide) (fun c5 => ?_) (fun c5 => ?_)
      · replace h := ao_ifT h c5
        refine ao_iconst (v := 0) dX12_mayCome_11 (by decide) ?_
        refine ao_istore_n 3 (lo' := [some (.ref (Γ.2.2.2 + r0)), some (.int x1), some (.int x2), some (.int (0 : Int32))]) dX12_mayCome_12 rfl (Nat.le_of_ble_eq_true rfl) rfl ?_
        exact ih.2.1 r0 x1 x2 (0 : Int32) M _ h
      · replace h := ao_ifF h c5
        refine ao_iconst (v := 0) dX12_mayCome_9 (by decide) ?_
        cases h
        exact ao_ireturn dX12_mayCome_10 rfl rfl ⟨rfl, rfl⟩
    · intro r0 x1 x2 x3 M y h
      replace h := ao_ifF h (by decide)
      replace h := ao_ifT h rfl
      refine ao_iload_n 3 dX12_mayCome_13 rfl rfl ?_
      refine ao_aload_n 0 dX12_mayCome_14 rfl rfl ?_
      obtain ⟨hk6, h⟩ := ao_some h
      refine an_getI r0 12 76 (q := (RX12, TX12, 83)) dX12_mayCome_15 rfl hk6 (Nat.le_of_ble_eq_true rfl) rfl lf_X12_338 ?_
      refine ao_icmp_ge 58 dX12_mayCome_18 (by decide) (fun c7 => ?_) (fun c7 => ?_)
      · replace h := ao_ifT h c7
        refine ao_iconst (v := 0) dX12_mayCome_58 (by decide) ?_
        refine ao_istore_n 3 (lo' := [some (.ref (Γ.2.2.2 + r0)), some (.int x1), some (.int x2), some (.int (0 : Int32))]) dX12_mayCome_59 rfl (Nat.le_of_ble_eq_true rfl) rfl ?_
        exact ih.2.2.2.1 r0 x1 x2 (0 : Int32) M _ h
      · replace h := ao_ifF h c7
        refine ao_aload_n 0 dX12_mayCome_21 rfl rfl ?_
        obtain ⟨j8, hj8, h⟩ := ao_bind h
        refine an_getR r0 12 81 (q := (RX12, TX12, 83)) dX12_mayCome_22 rfl hk6 (Nat.le_of_ble_eq_true rfl) rfl lf_X12_326 hj8 ?_
        refine ao_iload_n 3 dX12_mayCome_25 rfl rfl ?_
        obtain ⟨hk9, h⟩ := ao_some h
        obtain ⟨hb10, h⟩ := ao_some h
        refine an_zaload j8 dX12_mayCome_26 hk9 hb10 ?_
        refine ao_if_ne 52 dX12_mayCome_27 (by decide) (fun c11 => ?_) (fun c11 => ?_)
        · replace h := ao_ifF h c11
          exact ih.2.2.1 r0 x1 x2 x3 M _ h
        · replace h := ao_ifT h c11
          refine ao_iload_n 3 dX12_mayCome_30 rfl rfl ?_
          refine ao_iload_n 1 dX12_mayCome_31 rfl rfl ?_
          refine ao_icmp_eq 52 dX12_mayCome_32 (by decide) (fun c12 => ?_) (fun c12 => ?_)
          · replace h := ao_ifT h c12
            exact ih.2.2.1 r0 x1 x2 x3 M _ h
          · replace h := ao_ifF h c12
            refine ao_aload_n 0 dX12_mayCome_35 rfl rfl ?_
            obtain ⟨j13, hj13, h⟩ := ao_bind h
            refine an_getR r0 12 71 (q := (RX12, TX12, 83)) dX12_mayCome_36 rfl hk6 (Nat.le_of_ble_eq_true rfl) rfl lf_X12_302 hj13 ?_
            refine ao_iload_n 3 dX12_mayCome_39 rfl rfl ?_
            obtain ⟨hk14, h⟩ := ao_some h
            obtain ⟨hb15, h⟩ := ao_some h
            refine an_iaload j13 dX12_mayCome_40 hk14 hb15 ?_
            refine ao_aload_n 0 dX12_mayCome_41 rfl rfl ?_
            obtain ⟨j16, hj16, h⟩ := ao_bind h
            refine an_getR r0 12 70 (q := (RX12, TX12, 83)) dX12_mayCome_42 rfl hk6 (Nat.le_of_ble_eq_true rfl) rfl lf_X12_299 hj16 ?_
            refine ao_iload_n 1 dX12_mayCome_45 rfl rfl ?_
            obtain ⟨hk17, h⟩ := ao_some h
            obtain ⟨hb18, h⟩ := ao_some h
            refine an_iaload j16 dX12_mayCome_46 hk17 hb18 ?_
            refine ao_icmp_ge 52 dX12_mayCome_47 (by decide) (fun c19 => ?_) (fun c19 => ?_)
            · replace h := ao_ifT h c19
              exact ih.2.2.1 r0 x1 x2 x3 M _ h
            · replace h := ao_ifF h c19
              refine ao_iconst (v := 0) dX12_mayCome_50 (by decide) ?_
              cases h
              exact ao_ireturn dX12_mayCome_51 rfl rfl ⟨rfl, rfl⟩
    · intro r0 x1 x2 x3 M y h
      replace h := ao_ifF h (by decide)
      replace h := ao_ifF h (by decide)
      replace h := ao_ifT h rfl
      obtain ⟨v20, hv20⟩ : ∃ z : Int32, z = x3 + (1 : Int32) := ⟨_, rfl⟩
      replace h := ao_letD h hv20
      refine ao_iinc 3 (v := v20) (lo' := [some (.ref (Γ.2.2.2 + r0)), some (.int x1), some (.int x2), some (.int v20)]) dX12_mayCome_52 rfl (by rw [hv20]; rfl) (Nat.le_of_ble_eq_true rfl) rfl ?_
      refine ao_goto 13 dX12_mayCome_55 (by decide) ?_
      exact ih.2.1 r0 x1 x2 v20 M _ h
    · intro r0 x1 x2 x3 M y h
      replace h := ao_ifF h (by decide)
      replace h := ao_ifF h (by decide)
      replace h := ao_ifF h (by decide)
      replace h := ao_ifT h rfl
      refine ao_iload_n 3 dX12_mayCome_60 rfl rfl ?_
      refine ao_bipush (v := 26) dX12_mayCome_61 (by decide) ?_
      refine ao_icmp_ge 113 dX12_mayCome_63 (by decide) (fun c21 => ?_) (fun c21 => ?_)
      · replace h := ao_ifT h c21
        refine ao_iconst (v := 1) dX12_mayCome_113 (by decide) ?_
        cases h
        exact ao_ireturn dX12_mayCome_114 rfl rfl ⟨rfl, rfl⟩
      · replace h := ao_ifF h c21
        refine ao_aload_n 0 dX12_mayCome_66 rfl rfl ?_
        obtain ⟨hk22, h⟩ := ao_some h
        obtain ⟨j23, hj23, h⟩ := ao_bind h
        refine an_getR r0 12 74 (q := (RX12, TX12, 83)) dX12_mayCome_67 rfl hk22 (Nat.le_of_ble_eq_true rfl) rfl lf_X12_311 hj23 ?_
        refine ao_iload_n 1 dX12_mayCome_70 rfl rfl ?_
        refine ao_bipush (v := 26) dX12_mayCome_71 (by decide) ?_
        refine ao_imul dX12_mayCome_73 ?_
        refine ao_iload_n 3 dX12_mayCome_74 rfl rfl ?_
        refine ao_iadd dX12_mayCome_75 ?_
        obtain ⟨hk24, h⟩ := ao_some h
        obtain ⟨hb25, h⟩ := ao_some h
        refine an_zaload j23 dX12_mayCome_76 hk24 hb25 ?_
        refine ao_if_eq 107 dX12_mayCome_77 (by decide) (fun c26 => ?_) (fun c26 => ?_)
        · replace h := ao_ifT h c26
          exact ih.2.2.2.2 r0 x1 x2 x3 M _ h
        · replace h := ao_ifF h c26
          refine ao_aload_n 0 dX12_mayCome_80 rfl rfl ?_
          obtain ⟨j27, hj27, h⟩ := ao_bind h
          refine an_getR r0 12 72 (q := (RX12, TX12, 83)) dX12_mayCome_81 rfl hk22 (Nat.le_of_ble_eq_true rfl) rfl lf_X12_305 hj27 ?_
          refine ao_iload_n 1 dX12_mayCome_84 rfl rfl ?_
          refine ao_bipush (v := 26) dX12_mayCome_85 (by decide) ?_
          refine ao_imul dX12_mayCome_87 ?_
          refine ao_iload_n 3 dX12_mayCome_88 rfl rfl ?_
          refine ao_iadd dX12_mayCome_89 ?_
          obtain ⟨hk28, h⟩ := ao_some h
          obtain ⟨hb29, h⟩ := ao_some h
          refine an_iaload j27 dX12_mayCome_90 hk28 hb29 ?_
          refine ao_aload_n 0 dX12_mayCome_91 rfl rfl ?_
          obtain ⟨j30, hj30, h⟩ := ao_bind h
          refine an_getR r0 12 80 (q := (RX12, TX12, 83)) dX12_mayCome_92 rfl hk22 (Nat.le_of_ble_eq_true rfl) rfl lf_X12_323 hj30 ?_
          refine ao_iload_n 2 dX12_mayCome_95 rfl rfl ?_
          refine ao_bipush (v := 26) dX12_mayCome_96 (by decide) ?_
          refine ao_imul dX12_mayCome_98 ?_
          refine ao_iload_n 3 dX12_mayCome_99 rfl rfl ?_
          refine ao_iadd dX12_mayCome_100 ?_
          obtain ⟨hk31, h⟩ := ao_some h
          obtain ⟨hb32, h⟩ := ao_some h
          refine an_iaload j30 dX12_mayCome_101 hk31 hb32 ?_
          refine ao_icmp_eq 107 dX12_mayCome_102 (by decide) (fun c33 => ?_) (fun c33 => ?_)
          · replace h := ao_ifT h c33
            exact ih.2.2.2.2 r0 x1 x2 x3 M _ h
          · replace h := ao_ifF h c33
            refine ao_iconst (v := 0) dX12_mayCome_105 (by decide) ?_
            cases h
            exact ao_ireturn dX12_mayCome_106 rfl rfl ⟨rfl, rfl⟩
    · intro r0 x1 x2 x3 M y h
      replace h := ao_ifF h (by decide)
      replace h := ao_ifF h (by decide)
      replace h := ao_ifF h (by decide)
      replace h := ao_ifF h (by decide)
      replace h := ao_ifT h rfl
      obtain ⟨v34, hv34⟩ : ∃ z : Int32, z = x3 + (1 : Int32) := ⟨_, rfl⟩
      replace h := ao_letD h hv34
      refine ao_iinc 3 (v := v34) (lo' := [some (.ref (Γ.2.2.2 + r0)), some (.int x1), some (.int x2), some (.int v34)]) dX12_mayCome_107 rfl (by rw [hv34]; rfl) (Nat.le_of_ble_eq_true rfl) rfl ?_
      refine ao_goto 60 dX12_mayCome_110 (by decide) ?_
      exact ih.2.2.2.1 r0 x1 x2 v34 M _ h
set_option maxRecDepth 100000 in
set_option maxHeartbeats 4000000 in
theorem aX12_mayCome {Γ : ao_C} (d : Nat) (hd : 0 ≤ d) (n : Nat) (r0 : Nat) (x1 : Int32) (x2 : Int32) (M : ao_M) (ρ : ao_H) {y : Int32 × ao_M} (h : gX12_mayCome n r0 x1 x2 M ρ = some y) : ao_A Γ uX12_mayCome d 0 0 [.ref (Γ.2.2.2 + r0), .int x1, .int x2] (M, ρ) (ao_PI ρ y) := by
  refine ao_of (by decide) (ao_cat1 (Nat.le_of_ble_eq_true rfl)) (Nat.le_of_ble_eq_true rfl) ?_
  show ao_W Γ uX12_mayCome (ao_rm d 0 0) (ao_Q Γ (ao_PI ρ y) 0 0) 0 0 0 [some (.ref (Γ.2.2.2 + r0)), some (.int x1), some (.int x2), none] [] (M, ρ)
  exact (wX12_mayCome d hd n).1 r0 x1 x2 M y h

abbrev uX12_isAsIs : ao_Mi := (yX12_isAsIs, cX12_isAsIs, 3, (some .boolean), [])
def fX12_isAsIs : Nat → Nat → Nat → Int32 → Int32 →  ao_M → ao_H → Option (Int32 × ao_M)
  | 0, _, _, _, _, _, _ => none
  | n + 1, pc, r0, x1, x2, M, ρ =>
    if pc = 0 then
      fX12_isAsIs n 2 r0 x1 (0 : Int32) M ρ
    else if pc = 2 then
      if (26 : Int32) ≤ x2 then
        some ((1 : Int32), M)
      else
        if ρ.2.1 r0 = 22 then
        (ρ.1 r0 19).bind fun j3 =>
        if ρ.2.1 j3 = 0 then
        if ¬ (x2 < 0 ∨ ρ.2.2.1 j3 ≤ x2.toNatClampNeg) then
        if 0 ≤ (M j3 x2.toNatClampNeg) then
          fX12_isAsIs n 39 r0 x1 x2 M ρ
        else
          (ρ.1 r0 80).bind fun j7 =>
          if ρ.2.1 j7 = 0 then
          if ¬ (((x1 * (26 : Int32)) + x2) < 0 ∨ ρ.2.2.1 j7 ≤ ((x1 * (26 : Int32)) + x2).toNatClampNeg) then
          (ρ.1 r0 17).bind fun j10 =>
          if ρ.2.1 j10 = 0 then
          if ¬ (x2 < 0 ∨ ρ.2.2.1 j10 ≤ x2.toNatClampNeg) then
          if (M j7 ((x1 * (26 : Int32)) + x2).toNatClampNeg) = (M j10 x2.toNatClampNeg) then
            fX12_isAsIs n 39 r0 x1 x2 M ρ
          else
            some ((0 : Int32), M)
          else none
          else none
          else none
          else none
        else none
        else none
        else none
    else if pc = 39 then
      ao_let (x2 + (1 : Int32)) fun v14 =>
      fX12_isAsIs n 2 r0 x1 v14 M ρ
    else none
def gX12_isAsIs (n : Nat) (r0 : Nat) (x1 : Int32) (M : ao_M) (ρ : ao_H) : Option (Int32 × ao_M) := fX12_isAsIs n 0 r0 x1 0 M ρ
set_option maxRecDepth 100000 in
set_option maxHeartbeats 4000000 in
theorem wX12_isAsIs {Γ : ao_C} {ρ : ao_H} (d : Nat) (hd : 0 ≤ d) : ∀ n : Nat, (∀ (r0 : Nat) (x1 : Int32) (M : ao_M) (y : Int32 × ao_M), fX12_isAsIs n 0 r0 x1 0 M ρ = some y → ao_W Γ uX12_isAsIs (ao_rm d 0 0) (ao_Q Γ (ao_PI ρ y) 0 0) 0 0 0 [some (.ref (Γ.2.2.2 + r0)), some (.int x1), none] [] (M, ρ)) ∧ (∀ (r0 : Nat) (x1 : Int32) (x2 : Int32) (M : ao_M) (y : Int32 × ao_M), fX12_isAsIs n 2 r0 x1 x2 M ρ = some y → ao_W Γ uX12_isAsIs (ao_rm d 0 0) (ao_Q Γ (ao_PI ρ y) 0 0) 0 0 2 [some (.ref (Γ.2.2.2 + r0)), some (.int x1), some (.int x2)] [] (M, ρ)) ∧ (∀ (r0 : Nat) (x1 : Int32) (x2 : Int32) (M : ao_M) (y : Int32 × ao_M), fX12_isAsIs n 39 r0 x1 x2 M ρ = some y → ao_W Γ uX12_isAsIs (ao_rm d 0 0) (ao_Q Γ (ao_PI ρ y) 0 0) 0 0 39 [some (.ref (Γ.2.2.2 + r0)), some (.int x1), some (.int x2)] [] (M, ρ)) := by
  intro n
  induction n with
  | zero => exact ⟨fun _ _ _ _ h => ao_no h, fun _ _ _ _ _ h => ao_no h, fun _ _ _ _ _ h => ao_no h⟩
  | succ n ih =>
    refine ⟨?_, ?_, ?_⟩
    · intro r0 x1 M y h
      replace h := ao_ifT h rfl
      refine ao_iconst (v := 0) dX12_isAsIs_0 (by decide) ?_
      refine ao_istore_n 2 (lo' := [some (.ref (Γ.2.2.2 + r0)), some (.int x1), some (.int (0 : Int32))]) dX12_isAsIs_1 rfl (Nat.le_of_ble_eq_true rfl) rfl ?_
      exact ih.2.1 r0 x1 (0 : Int32) M _ h
    · intro r0 x1 x2 M y h
      replace h := ao_ifF h (by decide)
      replace h := ao_ifT h rfl
      refine ao_iload_n 2 dX12_isAsIs_2 rfl rfl ?_
      refine ao_bipush (v := 26) dX12_isAsIs_3 (by decide) ?_
      refine ao_icmp_ge 45 dX12_isAsIs_5 (by decide) (fun c1 => ?_) (fun c1 => ?_)
      · replace h := ao_ifT h c1
        refine ao_iconst (v := 1) dX12_isAsIs_45 (by decide) ?_
        cases h
        exact ao_ireturn dX12_isAsIs_46 rfl rfl ⟨rfl, rfl⟩
      · replace h := ao_ifF h c1
        refine ao_aload_n 0 dX12_isAsIs_8 rfl rfl ?_
        obtain ⟨hk2, h⟩ := ao_some h
        obtain ⟨j3, hj3, h⟩ := ao_bind h
        refine an_getR r0 12 19 (q := (RX12, TX12, 83)) dX12_isAsIs_9 rfl hk2 (Nat.le_of_ble_eq_true rfl) rfl lf_X12_177 hj3 ?_
        refine ao_iload_n 2 dX12_isAsIs_12 rfl rfl ?_
        obtain ⟨hk4, h⟩ := ao_some h
        obtain ⟨hb5, h⟩ := ao_some h
        refine an_iaload j3 dX12_isAsIs_13 hk4 hb5 ?_
        refine ao_if_ge 39 dX12_isAsIs_14 (by decide) (fun c6 => ?_) (fun c6 => ?_)
        · replace h := ao_ifT h c6
          exact ih.2.2 r0 x1 x2 M _ h
        · replace h := ao_ifF h c6
          refine ao_aload_n 0 dX12_isAsIs_17 rfl rfl ?_
          obtain ⟨j7, hj7, h⟩ := ao_bind h
          refine an_getR r0 12 80 (q := (RX12, TX12, 83)) dX12_isAsIs_18 rfl hk2 (Nat.le_of_ble_eq_true rfl) rfl lf_X12_323 hj7 ?_
          refine ao_iload_n 1 dX12_isAsIs_21 rfl rfl ?_
          refine ao_bipush (v := 26) dX12_isAsIs_22 (by decide) ?_
          refine ao_imul dX12_isAsIs_24 ?_
          refine ao_iload_n 2 dX12_isAsIs_25 rfl rfl ?_
          refine ao_iadd dX12_isAsIs_26 ?_
          obtain ⟨hk8, h⟩ := ao_some h
          obtain ⟨hb9, h⟩ := ao_some h
          refine an_iaload j7 dX12_isAsIs_27 hk8 hb9 ?_
          refine ao_aload_n 0 dX12_isAsIs_28 rfl rfl ?_
          obtain ⟨j10, hj10, h⟩ := ao_bind h
          refine an_getR r0 12 17 (q := (RX12, TX12, 83)) dX12_isAsIs_29 rfl hk2 (Nat.le_of_ble_eq_true rfl) rfl lf_X12_151 hj10 ?_
          refine ao_iload_n 2 dX12_isAsIs_32 rfl rfl ?_
          obtain ⟨hk11, h⟩ := ao_some h
          obtain ⟨hb12, h⟩ := ao_some h
          refine an_iaload j10 dX12_isAsIs_33 hk11 hb12 ?_
          refine ao_icmp_eq 39 dX12_isAsIs_34 (by decide) (fun c13 => ?_) (fun c13 => ?_)
          · replace h := ao_ifT h c13
            exact ih.2.2 r0 x1 x2 M _ h
          · replace h := ao_ifF h c13
            refine ao_iconst (v := 0) dX12_isAsIs_37 (by decide) ?_
            cases h
            exact ao_ireturn dX12_isAsIs_38 rfl rfl ⟨rfl, rfl⟩
    · intro r0 x1 x2 M y h
      replace h := ao_ifF h (by decide)
      replace h := ao_ifF h (by decide)
      replace h := ao_ifT h rfl
      obtain ⟨v14, hv14⟩ : ∃ z : Int32, z = x2 + (1 : Int32) := ⟨_, rfl⟩
      replace h := ao_letD h hv14
      refine ao_iinc 2 (v := v14) (lo' := [some (.ref (Γ.2.2.2 + r0)), some (.int x1), some (.int v14)]) dX12_isAsIs_39 rfl (by rw [hv14]; rfl) (Nat.le_of_ble_eq_true rfl) rfl ?_
      refine ao_goto 2 dX12_isAsIs_42 (by decide) ?_
      exact ih.2.1 r0 x1 v14 M _ h
set_option maxRecDepth 100000 in
set_option maxHeartbeats 4000000 in
theorem aX12_isAsIs {Γ : ao_C} (d : Nat) (hd : 0 ≤ d) (n : Nat) (r0 : Nat) (x1 : Int32) (M : ao_M) (ρ : ao_H) {y : Int32 × ao_M} (h : gX12_isAsIs n r0 x1 M ρ = some y) : ao_A Γ uX12_isAsIs d 0 0 [.ref (Γ.2.2.2 + r0), .int x1] (M, ρ) (ao_PI ρ y) := by
  refine ao_of (by decide) (ao_cat1 (Nat.le_of_ble_eq_true rfl)) (Nat.le_of_ble_eq_true rfl) ?_
  show ao_W Γ uX12_isAsIs (ao_rm d 0 0) (ao_Q Γ (ao_PI ρ y) 0 0) 0 0 0 [some (.ref (Γ.2.2.2 + r0)), some (.int x1), none] [] (M, ρ)
  exact (wX12_isAsIs d hd n).1 r0 x1 M y h

abbrev uX12_judge : ao_Mi := (yX12_judge, cX12_judge, 5, (some .int), [])
def fX12_judge : Nat → Nat → Nat → Int32 → Int32 → Int32 → Int32 → Int32 → Int32 → Nat →  ao_M → ao_H → Option (Int32 × ao_M)
  | 0, _, _, _, _, _, _, _, _, _, _, _ => none
  | n + 1, pc, r0, x1, x2, x3, x4, s0, s1, q2, M, ρ =>
    if pc = 0 then
      if ρ.2.1 r0 = 22 then
      ao_let (ao_u M r0 0 (0 : Int32)) fun M2 =>
      ao_let (ao_u M2 r0 82 (0 : Int32)) fun M3 =>
      if (M3 r0 76) ≤ (14 : Int32) then
        fX12_judge n 23 r0 (0 : Int32) 0 0 0 0 0 0 M3 ρ
      else
        some ((-1 : Int32), M3)
      else none
    else if pc = 23 then
      if (26 : Int32) ≤ x1 then
        fX12_judge n 49 r0 (0 : Int32) 0 0 0 0 0 0 M ρ
      else
        if ρ.2.1 r0 = 22 then
        (ρ.1 r0 80).bind fun j7 =>
        (ρ.1 r0 20).bind fun j8 =>
        if ρ.2.1 j8 = 0 then
        if ¬ (x1 < 0 ∨ ρ.2.2.1 j8 ≤ x1.toNatClampNeg) then
        if ρ.2.1 j7 = 0 then
        if ¬ (x1 < 0 ∨ ρ.2.2.1 j7 ≤ x1.toNatClampNeg) then
        ao_let (ao_u M j7 x1.toNatClampNeg (M j8 x1.toNatClampNeg)) fun M13 =>
        ao_let (x1 + (1 : Int32)) fun v14 =>
        fX12_judge n 23 r0 v14 0 0 0 0 0 0 M13 ρ
        else none
        else none
        else none
        else none
        else none
    else if pc = 49 then
      if ρ.2.1 r0 = 22 then
      if (M r0 76) ≤ x1 then
        (ρ.1 r0 79).bind fun j17 =>
        if ρ.2.1 j17 = 0 then
        if ¬ ((0 : Int32) < 0 ∨ ρ.2.2.1 j17 ≤ (0 : Int32).toNatClampNeg) then
        ao_let (ao_u M j17 (0 : Int32).toNatClampNeg (0 : Int32)) fun M20 =>
        fX12_judge n 81 r0 (1 : Int32) (0 : Int32) 0 0 0 0 0 M20 ρ
        else none
        else none
      else
        (ρ.1 r0 81).bind fun j21 =>
        if ρ.2.1 j21 = 2 then
        if ¬ (x1 < 0 ∨ ρ.2.2.1 j21 ≤ x1.toNatClampNeg) then
        ao_let (ao_u M j21 x1.toNatClampNeg (0 : Int32)) fun M24 =>
        ao_let (x1 + (1 : Int32)) fun v25 =>
        fX12_judge n 49 r0 v25 0 0 0 0 0 0 M24 ρ
        else none
        else none
      else none
    else if pc = 81 then
      if x2 < 0 then
        some ((0 : Int32), M)
      else
        if ρ.2.1 r0 = 22 then
        if x2 = (M r0 76) then
          (gX12_isAsIs n r0 x2 M ρ).bind fun p29 =>
          if p29.1 = 0 then
            fX12_judge n 108 r0 x1 x2 0 0 0 0 0 p29.2 ρ
          else
            ao_let (ao_u p29.2 r0 82 x2) fun M31 =>
            some ((1 : Int32), M31)
        else
          fX12_judge n 108 r0 x1 x2 0 0 0 0 0 M ρ
        else none
    else if pc = 108 then
      if ρ.2.1 r0 = 22 then
      (ρ.1 r0 79).bind fun j33 =>
      if ρ.2.1 j33 = 0 then
      if ¬ (x2 < 0 ∨ ρ.2.2.1 j33 ≤ x2.toNatClampNeg) then
      ao_let (M j33 x2.toNatClampNeg) fun v36 =>
      fX12_judge n 115 r0 x1 x2 v36 0 0 0 0 M ρ
      else none
      else none
      else none
    else if pc = 115 then
      if ρ.2.1 r0 = 22 then
      if (M r0 76) ≤ x3 then
        fX12_judge n 138 r0 x1 x2 x3 0 0 0 0 M ρ
      else
        (gX12_mayCome n r0 x3 x2 M ρ).bind fun p39 =>
        if p39.1 = 0 then
          ao_let (x3 + (1 : Int32)) fun v41 =>
          fX12_judge n 115 r0 x1 x2 v41 0 0 0 0 p39.2 ρ
        else
          fX12_judge n 138 r0 x1 x2 x3 0 0 0 0 p39.2 ρ
      else none
    else if pc = 138 then
      if ρ.2.1 r0 = 22 then
      if x2 = (M r0 76) then
        fX12_judge n 154 r0 x1 x2 x3 0 0 0 0 M ρ
      else
        if x3 = (M r0 76) then
          fX12_judge n 154 r0 x1 x2 x3 0 0 0 0 M ρ
        else
          ao_let (x1 + (1 : Int32)) fun v45 =>
          if v45 ≤ (20000 : Int32) then
            (ρ.1 r0 79).bind fun j47 =>
            if ρ.2.1 j47 = 0 then
            if ¬ (x2 < 0 ∨ ρ.2.2.1 j47 ≤ x2.toNatClampNeg) then
            ao_let (ao_u M j47 x2.toNatClampNeg (x3 + (1 : Int32))) fun M50 =>
            (ρ.1 r0 78).bind fun j51 =>
            if ρ.2.1 j51 = 0 then
            if ¬ (x2 < 0 ∨ ρ.2.2.1 j51 ≤ x2.toNatClampNeg) then
            ao_let (ao_u M50 j51 x2.toNatClampNeg x3) fun M54 =>
            (ρ.1 r0 81).bind fun j55 =>
            if ρ.2.1 j55 = 2 then
            if ¬ (x3 < 0 ∨ ρ.2.2.1 j55 ≤ x3.toNatClampNeg) then
            ao_let (ao_u M54 j55 x3.toNatClampNeg (1 : Int32)) fun M58 =>
            fX12_judge n 214 r0 v45 x2 x3 (0 : Int32) 0 0 0 M58 ρ
            else none
            else none
            else none
            else none
            else none
            else none
          else
            some ((-1 : Int32), M)
      else none
    else if pc = 154 then
      ao_let (x2 + (-1 : Int32)) fun v59 =>
      if v59 < 0 then
        fX12_judge n 81 r0 x1 v59 0 0 0 0 0 M ρ
      else
        if ρ.2.1 r0 = 22 then
        (ρ.1 r0 81).bind fun j62 =>
        (ρ.1 r0 78).bind fun j63 =>
        if ρ.2.1 j63 = 0 then
        if ¬ (v59 < 0 ∨ ρ.2.2.1 j63 ≤ v59.toNatClampNeg) then
        if ρ.2.1 j62 = 2 then
        if ¬ ((M j63 v59.toNatClampNeg) < 0 ∨ ρ.2.2.1 j62 ≤ (M j63 v59.toNatClampNeg).toNatClampNeg) then
        ao_let (ao_u M j62 (M j63 v59.toNatClampNeg).toNatClampNeg (0 : Int32)) fun M68 =>
        fX12_judge n 81 r0 x1 v59 0 0 0 0 0 M68 ρ
        else none
        else none
        else none
        else none
        else none
    else if pc = 214 then
      if (26 : Int32) ≤ x4 then
        ao_let (x2 + (1 : Int32)) fun v70 =>
        if ρ.2.1 r0 = 22 then
        (ρ.1 r0 79).bind fun j72 =>
        if ρ.2.1 j72 = 0 then
        if ¬ (v70 < 0 ∨ ρ.2.2.1 j72 ≤ v70.toNatClampNeg) then
        ao_let (ao_u M j72 v70.toNatClampNeg (0 : Int32)) fun M75 =>
        fX12_judge n 81 r0 x1 v70 0 0 0 0 0 M75 ρ
        else none
        else none
        else none
      else
        if ρ.2.1 r0 = 22 then
        (ρ.1 r0 80).bind fun j77 =>
        (ρ.1 r0 75).bind fun j78 =>
        if ρ.2.1 j78 = 2 then
        if ¬ (((x3 * (26 : Int32)) + x4) < 0 ∨ ρ.2.2.1 j78 ≤ ((x3 * (26 : Int32)) + x4).toNatClampNeg) then
        if (M j78 ((x3 * (26 : Int32)) + x4).toNatClampNeg) = 0 then
          if ρ.2.1 j77 = 0 then
          if ¬ (((x2 * (26 : Int32)) + x4) < 0 ∨ ρ.2.2.1 j77 ≤ ((x2 * (26 : Int32)) + x4).toNatClampNeg) then
          fX12_judge n 276 r0 x1 x2 x3 x4 (M j77 ((x2 * (26 : Int32)) + x4).toNatClampNeg) (((x2 + (1 : Int32)) * (26 : Int32)) + x4) j77 M ρ
          else none
          else none
        else
          (ρ.1 r0 73).bind fun j84 =>
          if ρ.2.1 j84 = 0 then
          if ¬ (((x3 * (26 : Int32)) + x4) < 0 ∨ ρ.2.2.1 j84 ≤ ((x3 * (26 : Int32)) + x4).toNatClampNeg) then
          fX12_judge n 276 r0 x1 x2 x3 x4 (M j84 ((x3 * (26 : Int32)) + x4).toNatClampNeg) (((x2 + (1 : Int32)) * (26 : Int32)) + x4) j77 M ρ
          else none
          else none
        else none
        else none
        else none
    else if pc = 276 then
      if ρ.2.1 q2 = 0 then
      if ¬ (s1 < 0 ∨ ρ.2.2.1 q2 ≤ s1.toNatClampNeg) then
      ao_let (ao_u M q2 s1.toNatClampNeg s0) fun M89 =>
      ao_let (x4 + (1 : Int32)) fun v90 =>
      fX12_judge n 214 r0 x1 x2 x3 v90 0 0 0 M89 ρ
      else none
      else none
    else none
def gX12_judge (n : Nat) (r0 : Nat) (M : ao_M) (ρ : ao_H) : Option (Int32 × ao_M) := fX12_judge n 0 r0 0 0 0 0 0 0 0 M ρ
set_option maxRecDepth 100000 in
set_option maxHeartbeats 4000000 in
theorem wX12_judge {Γ : ao_C} {ρ : ao_H} (d : Nat) (hd : 1 ≤ d) : ∀ n : Nat, (∀ (r0 : Nat) (M : ao_M) (y : Int32 × ao_M), fX12_judge n 0 r0 0 0 0 0 0 0 0 M ρ = some y → ao_W Γ uX12_judge (ao_rm d 0 0) (ao_Q Γ (ao_PI ρ y) 0 0) 0 0 0 [some (.ref (Γ.2.2.2 + r0)), none, none, none, none] [] (M, ρ)) ∧ (∀ (r0 : Nat) (x1 : Int32) (M : ao_M) (y : Int32 × ao_M), fX12_judge n 23 r0 x1 0 0 0 0 0 0 M ρ = some y → ao_W Γ uX12_judge (ao_rm d 0 0) (ao_Q Γ (ao_PI ρ y) 0 0) 0 0 23 [some (.ref (Γ.2.2.2 + r0)), some (.int x1), none, none, none] [] (M, ρ)) ∧ (∀ (r0 : Nat) (x1 : Int32) (M : ao_M) (y : Int32 × ao_M), fX12_judge n 49 r0 x1 0 0 0 0 0 0 M ρ = some y → ao_W Γ uX12_judge (ao_rm d 0 0) (ao_Q Γ (ao_PI ρ y) 0 0) 0 0 49 [some (.ref (Γ.2.2.2 + r0)), some (.int x1), none, none, none] [] (M, ρ)) ∧ (∀ (r0 : Nat) (x1 : Int32) (x2 : Int32) (M : ao_M) (y : Int32 × ao_M), fX12_judge n 81 r0 x1 x2 0 0 0 0 0 M ρ = some y → ao_W Γ uX12_judge (ao_rm d 0 0) (ao_Q Γ (ao_PI ρ y) 0 0) 0 0 81 [some (.ref (Γ.2.2.2 + r0)), some (.int x1), some (.int x2), none, none] [] (M, ρ)) ∧ (∀ (r0 : Nat) (x1 : Int32) (x2 : Int32) (M : ao_M) (y : Int32 × ao_M), fX12_judge n 108 r0 x1 x2 0 0 0 0 0 M ρ = some y → ao_W Γ uX12_judge (ao_rm d 0 0) (ao_Q Γ (ao_PI ρ y) 0 0) 0 0 108 [some (.ref (Γ.2.2.2 + r0)), some (.int x1), some (.int x2), none, none] [] (M, ρ)) ∧ (∀ (r0 : Nat) (x1 : Int32) (x2 : Int32) (x3 : Int32) (M : ao_M) (y : Int32 × ao_M), fX12_judge n 115 r0 x1 x2 x3 0 0 0 0 M ρ = some y → ao_W Γ uX12_judge (ao_rm d 0 0) (ao_Q Γ (ao_PI ρ y) 0 0) 0 0 115 [some (.ref (Γ.2.2.2 + r0)), some (.int x1), some (.int x2), some (.int x3), none] [] (M, ρ)) ∧ (∀ (r0 : Nat) (x1 : Int32) (x2 : Int32) (x3 : Int32) (M : ao_M) (y : Int32 × ao_M), fX12_judge n 138 r0 x1 x2 x3 0 0 0 0 M ρ = some y → ao_W Γ uX12_judge (ao_rm d 0 0) (ao_Q Γ (ao_PI ρ y) 0 0) 0 0 138 [some (.ref (Γ.2.2.2 + r0)), some (.int x1), some (.int x2), some (.int x3), none] [] (M, ρ)) ∧ (∀ (r0 : Nat) (x1 : Int32) (x2 : Int32) (x3 : Int32) (M : ao_M) (y : Int32 × ao_M), fX12_judge n 154 r0 x1 x2 x3 0 0 0 0 M ρ = some y → ao_W Γ uX12_judge (ao_rm d 0 0) (ao_Q Γ (ao_PI ρ y) 0 0) 0 0 154 [some (.ref (Γ.2.2.2 + r0)), some (.int x1), some (.int x2), some (.int x3), none] [] (M, ρ)) ∧ (∀ (r0 : Nat) (x1 : Int32) (x2 : Int32) (x3 : Int32) (x4 : Int32) (M : ao_M) (y : Int32 × ao_M), fX12_judge n 214 r0 x1 x2 x3 x4 0 0 0 M ρ = some y → ao_W Γ uX12_judge (ao_rm d 0 0) (ao_Q Γ (ao_PI ρ y) 0 0) 0 0 214 [some (.ref (Γ.2.2.2 + r0)), some (.int x1), some (.int x2), some (.int x3), some (.int x4)] [] (M, ρ)) ∧ (∀ (r0 : Nat) (x1 : Int32) (x2 : Int32) (x3 : Int32) (x4 : Int32) (s0 : Int32) (s1 : Int32) (q2 : Nat) (M : ao_M) (y : Int32 × ao_M), fX12_judge n 276 r0 x1 x2 x3 x4 s0 s1 q2 M ρ = some y → ao_W Γ uX12_judge (ao_rm d 0 0) (ao_Q Γ (ao_PI ρ y) 0 0) 0 0 276 [some (.ref (Γ.2.2.2 + r0)), some (.int x1), some (.int x2), some (.int x3), some (.int x4)] [.int s0, .int s1, .ref (Γ.2.2.2 + q2)] (M, ρ)) := by
  intro n
  induction n with
  | zero => exact ⟨fun _ _ _ h => ao_no h, fun _ _ _ _ h => ao_no h, fun _ _ _ _ h => ao_no h, fun _ _ _ _ _ h => ao_no h, fun _ _ _ _ _ h => ao_no h, fun _ _ _ _ _ _ h => ao_no h, fun _ _ _ _ _ _ h => ao_no h, fun _ _ _ _ _ _ h => ao_no h, fun _ _ _ _ _ _ _ h => ao_no h, fun _ _ _ _ _ _ _ _ _ _ h => ao_no h⟩
  | succ n ih =>
    refine ⟨?_, ?_, ?_, ?_, ?_, ?_, ?_, ?_, ?_, ?_⟩
    · intro r0 M y h
      replace h := ao_ifT h rfl
      refine ao_aload_n 0 dX12_judge_0 rfl rfl ?_
      refine ao_iconst (v := 0) dX12_judge_1 (by decide) ?_
      obtain ⟨hk1, h⟩ := ao_some h
      refine an_putI r0 12 0 (q := (RX12, TX12, 83)) dX12_judge_2 rfl hk1 (Nat.le_of_ble_eq_true rfl) lf_X12_1 rfl rfl rfl rfl (fun M2 hM2 => ?_)
      replace h := ao_letD h hM2
      refine ao_aload_n 0 dX12_judge_5 rfl rfl ?_
      refine ao_iconst (v := 0) dX12_judge_6 (by decide) ?_
      refine an_putI r0 12 82 (q := (RX12, TX12, 83)) dX12_judge_7 rfl hk1 (Nat.le_of_ble_eq_true rfl) lf_X12_347 rfl rfl rfl rfl (fun M3 hM3 => ?_)
      replace h := ao_letD h hM3
      refine ao_aload_n 0 dX12_judge_10 rfl rfl ?_
      refine an_getI r0 12 76 (q := (RX12, TX12, 83)) dX12_judge_11 rfl hk1 (Nat.le_of_ble_eq_true rfl) rfl lf_X12_338 ?_
      refine ao_bipush (v := 14) dX12_judge_14 (by decide) ?_
      refine ao_icmp_le 21 dX12_judge_16 (by decide) (fun c4 => ?_) (fun c4 => ?_)
      · replace h := ao_ifT h c4
        refine ao_iconst (v := 0) dX12_judge_21 (by decide) ?_
        refine ao_istore_n 1 (lo' := [some (.ref (Γ.2.2.2 + r0)), some (.int (0 : Int32)), none, none, none]) dX12_judge_22 rfl (Nat.le_of_ble_eq_true rfl) rfl ?_
        exact ih.2.1 r0 (0 : Int32) M3 _ h
      · replace h := ao_ifF h c4
        refine ao_iconst (v := (-1)) dX12_judge_19 (by decide) ?_
        cases h
        exact ao_ireturn dX12_judge_20 rfl rfl ⟨rfl, rfl⟩
    · intro r0 x1 M y h
      replace h := ao_ifF h (by decide)
      replace h := ao_ifT h rfl
      refine ao_iload_n 1 dX12_judge_23 rfl rfl ?_
      refine ao_bipush (v := 26) dX12_judge_24 (by decide) ?_
      refine ao_icmp_ge 47 dX12_judge_26 (by decide) (fun c5 => ?_) (fun c5 => ?_)
      · replace h := ao_ifT h c5
        refine ao_iconst (v := 0) dX12_judge_47 (by decide) ?_
        refine ao_istore_n 1 (lo' := [some (.ref (Γ.2.2.2 + r0)), some (.int (0 : Int32)), none, none, none]) dX12_judge_48 rfl (Nat.le_of_ble_eq_true rfl) rfl ?_
        exact ih.2.2.1 r0 (0 : Int32) M _ h
      · replace h := ao_ifF h c5
        refine ao_aload_n 0 dX12_judge_29 rfl rfl ?_
        obtain ⟨hk6, h⟩ := ao_some h
        obtain ⟨j7, hj7, h⟩ := ao_bind h
        refine an_getR r0 12 80 (q := (RX12, TX12, 83)) dX12_judge_30 rfl hk6 (Nat.le_of_ble_eq_true rfl) rfl lf_X12_323 hj7 ?_
        refine ao_iload_n 1 dX12_judge_33 rfl rfl ?_
        refine ao_aload_n 0 dX12_judge_34 rfl rfl ?_
        obtain ⟨j8, hj8, h⟩ := ao_bind h
        refine an_getR r0 12 20 (q := (RX12, TX12, 83)) dX12_judge_35 rfl hk6 (Nat.le_of_ble_eq_true rfl) rfl lf_X12_180 hj8 ?_
        refine ao_iload_n 1 dX12_judge_38 rfl rfl ?_
        obtain ⟨hk9, h⟩ := ao_some h
        obtain ⟨hb10, h⟩ := ao_some h
        refine an_iaload j8 dX12_judge_39 hk9 hb10 ?_
        obtain ⟨hk11, h⟩ := ao_some h
        obtain ⟨hb12, h⟩ := ao_some h
        refine an_iastore j7 dX12_judge_40 hk11 hb12 (fun M13 hM13 => ?_)
        replace h := ao_letD h hM13
        obtain ⟨v14, hv14⟩ : ∃ z : Int32, z = x1 + (1 : Int32) := ⟨_, rfl⟩
        replace h := ao_letD h hv14
        refine ao_iinc 1 (v := v14) (lo' := [some (.ref (Γ.2.2.2 + r0)), some (.int v14), none, none, none]) dX12_judge_41 rfl (by rw [hv14]; rfl) (Nat.le_of_ble_eq_true rfl) rfl ?_
        refine ao_goto 23 dX12_judge_44 (by decide) ?_
        exact ih.2.1 r0 v14 M13 _ h
    · intro r0 x1 M y h
      replace h := ao_ifF h (by decide)
      replace h := ao_ifF h (by decide)
      replace h := ao_ifT h rfl
      refine ao_iload_n 1 dX12_judge_49 rfl rfl ?_
      refine ao_aload_n 0 dX12_judge_50 rfl rfl ?_
      obtain ⟨hk15, h⟩ := ao_some h
      refine an_getI r0 12 76 (q := (RX12, TX12, 83)) dX12_judge_51 rfl hk15 (Nat.le_of_ble_eq_true rfl) rfl lf_X12_338 ?_
      refine ao_icmp_ge 70 dX12_judge_54 (by decide) (fun c16 => ?_) (fun c16 => ?_)
      · replace h := ao_ifT h c16
        refine ao_iconst (v := 1) dX12_judge_70 (by decide) ?_
        refine ao_istore_n 1 (lo' := [some (.ref (Γ.2.2.2 + r0)), some (.int (1 : Int32)), none, none, none]) dX12_judge_71 rfl (Nat.le_of_ble_eq_true rfl) rfl ?_
        refine ao_iconst (v := 0) dX12_judge_72 (by decide) ?_
        refine ao_istore_n 2 (lo' := [some (.ref (Γ.2.2.2 + r0)), some (.int (1 : Int32)), some (.int (0 : Int32)), none, none]) dX12_judge_73 rfl (Nat.le_of_ble_eq_true rfl) rfl ?_
        refine ao_aload_n 0 dX12_judge_74 rfl rfl ?_
        obtain ⟨j17, hj17, h⟩ := ao_bind h
        refine an_getR r0 12 79 (q := (RX12, TX12, 83)) dX12_judge_75 rfl hk15 (Nat.le_of_ble_eq_true rfl) rfl lf_X12_320 hj17 ?_
        refine ao_iconst (v := 0) dX12_judge_78 (by decide) ?_
        refine ao_iconst (v := 0) dX12_judge_79 (by decide) ?_
        obtain ⟨hk18, h⟩ := ao_some h
        obtain ⟨hb19, h⟩ := ao_some h
        refine an_iastore j17 dX12_judge_80 hk18 hb19 (fun M20 hM20 => ?_)
        replace h := ao_letD h hM20
        exact ih.2.2.2.1 r0 (1 : Int32) (0 : Int32) M20 _ h
      · replace h := ao_ifF h c16
        refine ao_aload_n 0 dX12_judge_57 rfl rfl ?_
        obtain ⟨j21, hj21, h⟩ := ao_bind h
        refine an_getR r0 12 81 (q := (RX12, TX12, 83)) dX12_judge_58 rfl hk15 (Nat.le_of_ble_eq_true rfl) rfl lf_X12_326 hj21 ?_
        refine ao_iload_n 1 dX12_judge_61 rfl rfl ?_
        refine ao_iconst (v := 0) dX12_judge_62 (by decide) ?_
        obtain ⟨hk22, h⟩ := ao_some h
        obtain ⟨hb23, h⟩ := ao_some h
        refine an_zastore j21 dX12_judge_63 hk22 hb23 rfl (fun M24 hM24 => ?_)
        replace h := ao_letD h hM24
        obtain ⟨v25, hv25⟩ : ∃ z : Int32, z = x1 + (1 : Int32) := ⟨_, rfl⟩
        replace h := ao_letD h hv25
        refine ao_iinc 1 (v := v25) (lo' := [some (.ref (Γ.2.2.2 + r0)), some (.int v25), none, none, none]) dX12_judge_64 rfl (by rw [hv25]; rfl) (Nat.le_of_ble_eq_true rfl) rfl ?_
        refine ao_goto 49 dX12_judge_67 (by decide) ?_
        exact ih.2.2.1 r0 v25 M24 _ h
    · intro r0 x1 x2 M y h
      replace h := ao_ifF h (by decide)
      replace h := ao_ifF h (by decide)
      replace h := ao_ifF h (by decide)
      replace h := ao_ifT h rfl
      refine ao_iload_n 2 dX12_judge_81 rfl rfl ?_
      refine ao_if_lt 296 dX12_judge_82 (by decide) (fun c26 => ?_) (fun c26 => ?_)
      · replace h := ao_ifT h c26
        refine ao_iconst (v := 0) dX12_judge_296 (by decide) ?_
        cases h
        exact ao_ireturn dX12_judge_297 rfl rfl ⟨rfl, rfl⟩
      · replace h := ao_ifF h c26
        refine ao_iload_n 2 dX12_judge_85 rfl rfl ?_
        refine ao_aload_n 0 dX12_judge_86 rfl rfl ?_
        obtain ⟨hk27, h⟩ := ao_some h
        refine an_getI r0 12 76 (q := (RX12, TX12, 83)) dX12_judge_87 rfl hk27 (Nat.le_of_ble_eq_true rfl) rfl lf_X12_338 ?_
        refine ao_icmp_ne 108 dX12_judge_90 (by decide) (fun c28 => ?_) (fun c28 => ?_)
        · replace h := ao_ifF h c28
          exact ih.2.2.2.2.1 r0 x1 x2 M _ h
        · replace h := ao_ifT h c28
          refine ao_aload_n 0 dX12_judge_93 rfl rfl ?_
          refine ao_iload_n 2 dX12_judge_94 rfl rfl ?_
          obtain ⟨p29, hp29, h⟩ := ao_bind h
          refine an_callVi r0 12 (q := (RX12, TX12, 83)) [.int x2] (aX12_isAsIs (d - 1) (by omega) _ r0 x2 M ρ hp29) dX12_judge_95 lc_X12_524 li_X12_isAsIs ls_X12_isAsIs rfl hk27 rfl rfl (Nat.le_of_ble_eq_true rfl) (ao_hR (by omega) (by decide)) ?_
          refine ao_if_eq 108 dX12_judge_98 (by decide) (fun c30 => ?_) (fun c30 => ?_)
          · replace h := ao_ifT h c30
            exact ih.2.2.2.2.1 r0 x1 x2 p29.2 _ h
          · replace h := ao_ifF h c30
            refine ao_aload_n 0 dX12_judge_101 rfl rfl ?_
            refine ao_iload_n 2 dX12_judge_102 rfl rfl ?_
            refine an_putI r0 12 82 (q := (RX12, TX12, 83)) dX12_judge_103 rfl hk27 (Nat.le_of_ble_eq_true rfl) lf_X12_347 rfl rfl rfl rfl (fun M31 hM31 => ?_)
            replace h := ao_letD h hM31
            refine ao_iconst (v := 1) dX12_judge_106 (by decide) ?_
            cases h
            exact ao_ireturn dX12_judge_107 rfl rfl ⟨rfl, rfl⟩
    · intro r0 x1 x2 M y h
      replace h := ao_ifF h (by decide)
      replace h := ao_ifF h (by decide)
      replace h := ao_ifF h (by decide)
      replace h := ao_ifF h (by decide)
      replace h := ao_ifT h rfl
      refine ao_aload_n 0 dX12_judge_108 rfl rfl ?_
      obtain ⟨hk32, h⟩ := ao_some h
      obtain ⟨j33, hj33, h⟩ := ao_bind h
      refine an_getR r0 12 79 (q := (RX12, TX12, 83)) dX12_judge_109 rfl hk32 (Nat.le_of_ble_eq_true rfl) rfl lf_X12_320 hj33 ?_
      refine ao_iload_n 2 dX12_judge_112 rfl rfl ?_
      obtain ⟨hk34, h⟩ := ao_some h
      obtain ⟨hb35, h⟩ := ao_some h
      refine an_iaload j33 dX12_judge_113 hk34 hb35 ?_
      refine an_topi (fun v36 hv36 => ?_)
      replace h := ao_letD h hv36
      refine ao_istore_n 3 (lo' := [some (.ref (Γ.2.2.2 + r0)), some (.int x1), some (.int x2), some (.int v36), none]) dX12_judge_114 rfl (Nat.le_of_ble_eq_true rfl) rfl ?_
      exact ih.2.2.2.2.2.1 r0 x1 x2 v36 M _ h
    · intro r0 x1 x2 x3 M y h
      replace h := ao_ifF h (by decide)
      replace h := ao_ifF h (by decide)
      replace h := ao_ifF h (by decide)
      replace h := ao_ifF h (by decide)
      replace h := ao_ifF h (by decide)
      replace h := ao_ifT h rfl
      refine ao_iload_n 3 dX12_judge_115 rfl rfl ?_
      refine ao_aload_n 0 dX12_judge_116 rfl rfl ?_
      obtain ⟨hk37, h⟩ := ao_some h
      refine an_getI r0 12 76 (q := (RX12, TX12, 83)) dX12_judge_117 rfl hk37 (Nat.le_of_ble_eq_true rfl) rfl lf_X12_338 ?_
      refine ao_icmp_ge 138 dX12_judge_120 (by decide) (fun c38 => ?_) (fun c38 => ?_)
      · replace h := ao_ifT h c38
        exact ih.2.2.2.2.2.2.1 r0 x1 x2 x3 M _ h
      · replace h := ao_ifF h c38
        refine ao_aload_n 0 dX12_judge_123 rfl rfl ?_
        refine ao_iload_n 3 dX12_judge_124 rfl rfl ?_
        refine ao_iload_n 2 dX12_judge_125 rfl rfl ?_
        obtain ⟨p39, hp39, h⟩ := ao_bind h
        refine an_callVi r0 12 (q := (RX12, TX12, 83)) [.int x3, .int x2] (aX12_mayCome (d - 1) (by omega) _ r0 x3 x2 M ρ hp39) dX12_judge_126 lc_X12_527 li_X12_mayCome ls_X12_mayCome rfl hk37 rfl rfl (Nat.le_of_ble_eq_true rfl) (ao_hR (by omega) (by decide)) ?_
        refine ao_if_ne 138 dX12_judge_129 (by decide) (fun c40 => ?_) (fun c40 => ?_)
        · replace h := ao_ifF h c40
          exact ih.2.2.2.2.2.2.1 r0 x1 x2 x3 p39.2 _ h
        · replace h := ao_ifT h c40
          obtain ⟨v41, hv41⟩ : ∃ z : Int32, z = x3 + (1 : Int32) := ⟨_, rfl⟩
          replace h := ao_letD h hv41
          refine ao_iinc 3 (v := v41) (lo' := [some (.ref (Γ.2.2.2 + r0)), some (.int x1), some (.int x2), some (.int v41), none]) dX12_judge_132 rfl (by rw [hv41]; rfl) (Nat.le_of_ble_eq_true rfl) rfl ?_
          refine ao_goto 115 dX12_judge_135 (by decide) ?_
          exact ih.2.2.2.2.2.1 r0 x1 x2 v41 p39.2 _ h
    · intro r0 x1 x2 x3 M y h
      replace h := ao_ifF h (by decide)
      replace h := ao_ifF h (by decide)
      replace h := ao_ifF h (by decide)
      replace h := ao_ifF h (by decide)
      replace h := ao_ifF h (by decide)
      replace h := ao_ifF h (by decide)
      replace h := ao_ifT h rfl
      refine ao_iload_n 2 dX12_judge_138 rfl rfl ?_
      refine ao_aload_n 0 dX12_judge_139 rfl rfl ?_
      obtain ⟨hk42, h⟩ := ao_some h
      refine an_getI r0 12 76 (q := (RX12, TX12, 83)) dX12_judge_140 rfl hk42 (Nat.le_of_ble_eq_true rfl) rfl lf_X12_338 ?_
      refine ao_icmp_eq 154 dX12_judge_143 (by decide) (fun c43 => ?_) (fun c43 => ?_)
      · replace h := ao_ifT h c43
        exact ih.2.2.2.2.2.2.2.1 r0 x1 x2 x3 M _ h
      · replace h := ao_ifF h c43
        refine ao_iload_n 3 dX12_judge_146 rfl rfl ?_
        refine ao_aload_n 0 dX12_judge_147 rfl rfl ?_
        refine an_getI r0 12 76 (q := (RX12, TX12, 83)) dX12_judge_148 rfl hk42 (Nat.le_of_ble_eq_true rfl) rfl lf_X12_338 ?_
        refine ao_icmp_ne 176 dX12_judge_151 (by decide) (fun c44 => ?_) (fun c44 => ?_)
        · replace h := ao_ifF h c44
          obtain ⟨v45, hv45⟩ : ∃ z : Int32, z = x1 + (1 : Int32) := ⟨_, rfl⟩
          replace h := ao_letD h hv45
          refine ao_iinc 1 (v := v45) (lo' := [some (.ref (Γ.2.2.2 + r0)), some (.int v45), some (.int x2), some (.int x3), none]) dX12_judge_176 rfl (by rw [hv45]; rfl) (Nat.le_of_ble_eq_true rfl) rfl ?_
          refine ao_iload_n 1 dX12_judge_179 rfl rfl ?_
          refine ao_sipush (v := 20000) dX12_judge_180 (by decide) ?_
          refine ao_icmp_le 188 dX12_judge_183 (by decide) (fun c46 => ?_) (fun c46 => ?_)
          · replace h := ao_ifT h c46
            refine ao_aload_n 0 dX12_judge_188 rfl rfl ?_
            obtain ⟨j47, hj47, h⟩ := ao_bind h
            refine an_getR r0 12 79 (q := (RX12, TX12, 83)) dX12_judge_189 rfl hk42 (Nat.le_of_ble_eq_true rfl) rfl lf_X12_320 hj47 ?_
            refine ao_iload_n 2 dX12_judge_192 rfl rfl ?_
            refine ao_iload_n 3 dX12_judge_193 rfl rfl ?_
            refine ao_iconst (v := 1) dX12_judge_194 (by decide) ?_
            refine ao_iadd dX12_judge_195 ?_
            obtain ⟨hk48, h⟩ := ao_some h
            obtain ⟨hb49, h⟩ := ao_some h
            refine an_iastore j47 dX12_judge_196 hk48 hb49 (fun M50 hM50 => ?_)
            replace h := ao_letD h hM50
            refine ao_aload_n 0 dX12_judge_197 rfl rfl ?_
            obtain ⟨j51, hj51, h⟩ := ao_bind h
            refine an_getR r0 12 78 (q := (RX12, TX12, 83)) dX12_judge_198 rfl hk42 (Nat.le_of_ble_eq_true rfl) rfl lf_X12_317 hj51 ?_
            refine ao_iload_n 2 dX12_judge_201 rfl rfl ?_
            refine ao_iload_n 3 dX12_judge_202 rfl rfl ?_
            obtain ⟨hk52, h⟩ := ao_some h
            obtain ⟨hb53, h⟩ := ao_some h
            refine an_iastore j51 dX12_judge_203 hk52 hb53 (fun M54 hM54 => ?_)
            replace h := ao_letD h hM54
            refine ao_aload_n 0 dX12_judge_204 rfl rfl ?_
            obtain ⟨j55, hj55, h⟩ := ao_bind h
            refine an_getR r0 12 81 (q := (RX12, TX12, 83)) dX12_judge_205 rfl hk42 (Nat.le_of_ble_eq_true rfl) rfl lf_X12_326 hj55 ?_
            refine ao_iload_n 3 dX12_judge_208 rfl rfl ?_
            refine ao_iconst (v := 1) dX12_judge_209 (by decide) ?_
            obtain ⟨hk56, h⟩ := ao_some h
            obtain ⟨hb57, h⟩ := ao_some h
            refine an_zastore j55 dX12_judge_210 hk56 hb57 rfl (fun M58 hM58 => ?_)
            replace h := ao_letD h hM58
            refine ao_iconst (v := 0) dX12_judge_211 (by decide) ?_
            refine ao_istore 4 (lo' := [some (.ref (Γ.2.2.2 + r0)), some (.int v45), some (.int x2), some (.int x3), some (.int (0 : Int32))]) dX12_judge_212 (Nat.le_of_ble_eq_true rfl) rfl ?_
            exact ih.2.2.2.2.2.2.2.2.1 r0 v45 x2 x3 (0 : Int32) M58 _ h
          · replace h := ao_ifF h c46
            refine ao_iconst (v := (-1)) dX12_judge_186 (by decide) ?_
            cases h
            exact ao_ireturn dX12_judge_187 rfl rfl ⟨rfl, rfl⟩
        · replace h := ao_ifT h c44
          exact ih.2.2.2.2.2.2.2.1 r0 x1 x2 x3 M _ h
    · intro r0 x1 x2 x3 M y h
      replace h := ao_ifF h (by decide)
      replace h := ao_ifF h (by decide)
      replace h := ao_ifF h (by decide)
      replace h := ao_ifF h (by decide)
      replace h := ao_ifF h (by decide)
      replace h := ao_ifF h (by decide)
      replace h := ao_ifF h (by decide)
      replace h := ao_ifT h rfl
      obtain ⟨v59, hv59⟩ : ∃ z : Int32, z = x2 + (-1 : Int32) := ⟨_, rfl⟩
      replace h := ao_letD h hv59
      refine ao_iinc 2 (v := v59) (lo' := [some (.ref (Γ.2.2.2 + r0)), some (.int x1), some (.int v59), some (.int x3), none]) dX12_judge_154 rfl (by rw [hv59]; rfl) (Nat.le_of_ble_eq_true rfl) rfl ?_
      refine ao_iload_n 2 dX12_judge_157 rfl rfl ?_
      refine ao_if_lt 81 dX12_judge_158 (by decide) (fun c60 => ?_) (fun c60 => ?_)
      · replace h := ao_ifT h c60
        refine ao_loForget (lo' := [some (.ref (Γ.2.2.2 + r0)), some (.int x1), some (.int v59), none, none]) (ao_fgS (ao_fgS (ao_fgS (ao_fgN (ao_fgN ao_fgZ))))) ?_
        exact ih.2.2.2.1 r0 x1 v59 M _ h
      · replace h := ao_ifF h c60
        refine ao_aload_n 0 dX12_judge_161 rfl rfl ?_
        obtain ⟨hk61, h⟩ := ao_some h
        obtain ⟨j62, hj62, h⟩ := ao_bind h
        refine an_getR r0 12 81 (q := (RX12, TX12, 83)) dX12_judge_162 rfl hk61 (Nat.le_of_ble_eq_true rfl) rfl lf_X12_326 hj62 ?_
        refine ao_aload_n 0 dX12_judge_165 rfl rfl ?_
        obtain ⟨j63, hj63, h⟩ := ao_bind h
        refine an_getR r0 12 78 (q := (RX12, TX12, 83)) dX12_judge_166 rfl hk61 (Nat.le_of_ble_eq_true rfl) rfl lf_X12_317 hj63 ?_
        refine ao_iload_n 2 dX12_judge_169 rfl rfl ?_
        obtain ⟨hk64, h⟩ := ao_some h
        obtain ⟨hb65, h⟩ := ao_some h
        refine an_iaload j63 dX12_judge_170 hk64 hb65 ?_
        refine ao_iconst (v := 0) dX12_judge_171 (by decide) ?_
        obtain ⟨hk66, h⟩ := ao_some h
        obtain ⟨hb67, h⟩ := ao_some h
        refine an_zastore j62 dX12_judge_172 hk66 hb67 rfl (fun M68 hM68 => ?_)
        replace h := ao_letD h hM68
        refine ao_goto 81 dX12_judge_173 (by decide) ?_
        refine ao_loForget (lo' := [some (.ref (Γ.2.2.2 + r0)), some (.int x1), some (.int v59), none, none]) (ao_fgS (ao_fgS (ao_fgS (ao_fgN (ao_fgN ao_fgZ))))) ?_
        exact ih.2.2.2.1 r0 x1 v59 M68 _ h
    · intro r0 x1 x2 x3 x4 M y h
      replace h := ao_ifF h (by decide)
      replace h := ao_ifF h (by decide)
      replace h := ao_ifF h (by decide)
      replace h := ao_ifF h (by decide)
      replace h := ao_ifF h (by decide)
      replace h := ao_ifF h (by decide)
      replace h := ao_ifF h (by decide)
      replace h := ao_ifF h (by decide)
      replace h := ao_ifT h rfl
      refine ao_iload 4 dX12_judge_214 rfl ?_
      refine ao_bipush (v := 26) dX12_judge_216 (by decide) ?_
      refine ao_icmp_ge 283 dX12_judge_218 (by decide) (fun c69 => ?_) (fun c69 => ?_)
      · replace h := ao_ifT h c69
        obtain ⟨v70, hv70⟩ : ∃ z : Int32, z = x2 + (1 : Int32) := ⟨_, rfl⟩
        replace h := ao_letD h hv70
        refine ao_iinc 2 (v := v70) (lo' := [some (.ref (Γ.2.2.2 + r0)), some (.int x1), some (.int v70), some (.int x3), some (.int x4)]) dX12_judge_283 rfl (by rw [hv70]; rfl) (Nat.le_of_ble_eq_true rfl) rfl ?_
        refine ao_aload_n 0 dX12_judge_286 rfl rfl ?_
        obtain ⟨hk71, h⟩ := ao_some h
        obtain ⟨j72, hj72, h⟩ := ao_bind h
        refine an_getR r0 12 79 (q := (RX12, TX12, 83)) dX12_judge_287 rfl hk71 (Nat.le_of_ble_eq_true rfl) rfl lf_X12_320 hj72 ?_
        refine ao_iload_n 2 dX12_judge_290 rfl rfl ?_
        refine ao_iconst (v := 0) dX12_judge_291 (by decide) ?_
        obtain ⟨hk73, h⟩ := ao_some h
        obtain ⟨hb74, h⟩ := ao_some h
        refine an_iastore j72 dX12_judge_292 hk73 hb74 (fun M75 hM75 => ?_)
        replace h := ao_letD h hM75
        refine ao_goto 81 dX12_judge_293 (by decide) ?_
        refine ao_loForget (lo' := [some (.ref (Γ.2.2.2 + r0)), some (.int x1), some (.int v70), none, none]) (ao_fgS (ao_fgS (ao_fgS (ao_fgN (ao_fgN ao_fgZ))))) ?_
        exact ih.2.2.2.1 r0 x1 v70 M75 _ h
      · replace h := ao_ifF h c69
        refine ao_aload_n 0 dX12_judge_221 rfl rfl ?_
        obtain ⟨hk76, h⟩ := ao_some h
        obtain ⟨j77, hj77, h⟩ := ao_bind h
        refine an_getR r0 12 80 (q := (RX12, TX12, 83)) dX12_judge_222 rfl hk76 (Nat.le_of_ble_eq_true rfl) rfl lf_X12_323 hj77 ?_
        refine ao_iload_n 2 dX12_judge_225 rfl rfl ?_
        refine ao_iconst (v := 1) dX12_judge_226 (by decide) ?_
        refine ao_iadd dX12_judge_227 ?_
        refine ao_bipush (v := 26) dX12_judge_228 (by decide) ?_
        refine ao_imul dX12_judge_230 ?_
        refine ao_iload 4 dX12_judge_231 rfl ?_
        refine ao_iadd dX12_judge_233 ?_
        refine ao_aload_n 0 dX12_judge_234 rfl rfl ?_
        obtain ⟨j78, hj78, h⟩ := ao_bind h
        refine an_getR r0 12 75 (q := (RX12, TX12, 83)) dX12_judge_235 rfl hk76 (Nat.le_of_ble_eq_true rfl) rfl lf_X12_314 hj78 ?_
        refine ao_iload_n 3 dX12_judge_238 rfl rfl ?_
        refine ao_bipush (v := 26) dX12_judge_239 (by decide) ?_
        refine ao_imul dX12_judge_241 ?_
        refine ao_iload 4 dX12_judge_242 rfl ?_
        refine ao_iadd dX12_judge_244 ?_
        obtain ⟨hk79, h⟩ := ao_some h
        obtain ⟨hb80, h⟩ := ao_some h
        refine an_zaload j78 dX12_judge_245 hk79 hb80 ?_
        refine ao_if_eq 264 dX12_judge_246 (by decide) (fun c81 => ?_) (fun c81 => ?_)
        · replace h := ao_ifT h c81
          refine ao_aload_n 0 dX12_judge_264 rfl rfl ?_
          refine an_getR r0 12 80 (q := (RX12, TX12, 83)) dX12_judge_265 rfl hk76 (Nat.le_of_ble_eq_true rfl) rfl lf_X12_323 hj77 ?_
          refine ao_iload_n 2 dX12_judge_268 rfl rfl ?_
          refine ao_bipush (v := 26) dX12_judge_269 (by decide) ?_
          refine ao_imul dX12_judge_271 ?_
          refine ao_iload 4 dX12_judge_272 rfl ?_
          refine ao_iadd dX12_judge_274 ?_
          obtain ⟨hk82, h⟩ := ao_some h
          obtain ⟨hb83, h⟩ := ao_some h
          refine an_iaload j77 dX12_judge_275 hk82 hb83 ?_
          exact ih.2.2.2.2.2.2.2.2.2 r0 x1 x2 x3 x4 (M j77 ((x2 * (26 : Int32)) + x4).toNatClampNeg) (((x2 + (1 : Int32)) * (26 : Int32)) + x4) j77 M _ h
        · replace h := ao_ifF h c81
          refine ao_aload_n 0 dX12_judge_249 rfl rfl ?_
          obtain ⟨j84, hj84, h⟩ := ao_bind h
          refine an_getR r0 12 73 (q := (RX12, TX12, 83)) dX12_judge_250 rfl hk76 (Nat.le_of_ble_eq_true rfl) rfl lf_X12_308 hj84 ?_
          refine ao_iload_n 3 dX12_judge_253 rfl rfl ?_
          refine ao_bipush (v := 26) dX12_judge_254 (by decide) ?_
          refine ao_imul dX12_judge_256 ?_
          refine ao_iload 4 dX12_judge_257 rfl ?_
          refine ao_iadd dX12_judge_259 ?_
          obtain ⟨hk85, h⟩ := ao_some h
          obtain ⟨hb86, h⟩ := ao_some h
          refine an_iaload j84 dX12_judge_260 hk85 hb86 ?_
          refine ao_goto 276 dX12_judge_261 (by decide) ?_
          exact ih.2.2.2.2.2.2.2.2.2 r0 x1 x2 x3 x4 (M j84 ((x3 * (26 : Int32)) + x4).toNatClampNeg) (((x2 + (1 : Int32)) * (26 : Int32)) + x4) j77 M _ h
    · intro r0 x1 x2 x3 x4 s0 s1 q2 M y h
      replace h := ao_ifF h (by decide)
      replace h := ao_ifF h (by decide)
      replace h := ao_ifF h (by decide)
      replace h := ao_ifF h (by decide)
      replace h := ao_ifF h (by decide)
      replace h := ao_ifF h (by decide)
      replace h := ao_ifF h (by decide)
      replace h := ao_ifF h (by decide)
      replace h := ao_ifF h (by decide)
      replace h := ao_ifT h rfl
      obtain ⟨hk87, h⟩ := ao_some h
      obtain ⟨hb88, h⟩ := ao_some h
      refine an_iastore q2 dX12_judge_276 hk87 hb88 (fun M89 hM89 => ?_)
      replace h := ao_letD h hM89
      obtain ⟨v90, hv90⟩ : ∃ z : Int32, z = x4 + (1 : Int32) := ⟨_, rfl⟩
      replace h := ao_letD h hv90
      refine ao_iinc 4 (v := v90) (lo' := [some (.ref (Γ.2.2.2 + r0)), some (.int x1), some (.int x2), some (.int x3), some (.int v90)]) dX12_judge_277 rfl (by rw [hv90]; rfl) (Nat.le_of_ble_eq_true rfl) rfl ?_
      refine ao_goto 214 dX12_judge_280 (by decide) ?_
      exact ih.2.2.2.2.2.2.2.2.1 r0 x1 x2 x3 v90 M89 _ h
set_option maxRecDepth 100000 in
set_option maxHeartbeats 4000000 in
theorem aX12_judge {Γ : ao_C} (d : Nat) (hd : 1 ≤ d) (n : Nat) (r0 : Nat) (M : ao_M) (ρ : ao_H) {y : Int32 × ao_M} (h : gX12_judge n r0 M ρ = some y) : ao_A Γ uX12_judge d 0 0 [.ref (Γ.2.2.2 + r0)] (M, ρ) (ao_PI ρ y) := by
  refine ao_of (by decide) (ao_cat1 (Nat.le_of_ble_eq_true rfl)) (Nat.le_of_ble_eq_true rfl) ?_
  show ao_W Γ uX12_judge (ao_rm d 0 0) (ao_Q Γ (ao_PI ρ y) 0 0) 0 0 0 [some (.ref (Γ.2.2.2 + r0)), none, none, none, none] [] (M, ρ)
  exact (wX12_judge d hd n).1 r0 M y h

abbrev uX12_order : ao_Mi := (yX12_order, cX12_order, 2, (some .int), [])
def fX12_order : Nat → Nat → Nat → Int32 → Nat → Int32 → Nat →  ao_M → ao_H → Option (Int32 × ao_M)
  | 0, _, _, _, _, _, _, _, _ => none
  | n + 1, pc, r0, x1, q0, s0, q1, M, ρ =>
    if pc = 0 then
      if x1 < 0 then
        fX12_order n 13 r0 x1 r0 0 0 M ρ
      else
        if ρ.2.1 r0 = 22 then
        if x1 < (M r0 82) then
          fX12_order n 18 r0 x1 0 (0 : Int32) r0 M ρ
        else
          fX12_order n 13 r0 x1 r0 0 0 M ρ
        else none
    else if pc = 13 then
      fX12_order n 18 r0 x1 0 (1 : Int32) q0 M ρ
    else if pc = 18 then
      if ρ.2.1 q1 = 22 then
      (gX12_fails q1 s0 M ρ).bind fun p5 =>
      if p5.1 = 0 then
        if ρ.2.1 r0 = 22 then
        (ρ.1 r0 78).bind fun j8 =>
        if ρ.2.1 j8 = 0 then
        if ¬ (x1 < 0 ∨ ρ.2.2.1 j8 ≤ x1.toNatClampNeg) then
        some ((p5.2 j8 x1.toNatClampNeg), p5.2)
        else none
        else none
        else none
      else
        some ((0 : Int32), p5.2)
      else none
    else none
def gX12_order (n : Nat) (r0 : Nat) (x1 : Int32) (M : ao_M) (ρ : ao_H) : Option (Int32 × ao_M) := fX12_order n 0 r0 x1 0 0 0 M ρ
set_option maxRecDepth 100000 in
set_option maxHeartbeats 4000000 in
theorem wX12_order {Γ : ao_C} {ρ : ao_H} (d : Nat) (hd : 1 ≤ d) : ∀ n : Nat, (∀ (r0 : Nat) (x1 : Int32) (M : ao_M) (y : Int32 × ao_M), fX12_order n 0 r0 x1 0 0 0 M ρ = some y → ao_W Γ uX12_order (ao_rm d 0 0) (ao_Q Γ (ao_PI ρ y) 0 0) 0 0 0 [some (.ref (Γ.2.2.2 + r0)), some (.int x1)] [] (M, ρ)) ∧ (∀ (r0 : Nat) (x1 : Int32) (q0 : Nat) (M : ao_M) (y : Int32 × ao_M), fX12_order n 13 r0 x1 q0 0 0 M ρ = some y → ao_W Γ uX12_order (ao_rm d 0 0) (ao_Q Γ (ao_PI ρ y) 0 0) 0 0 13 [some (.ref (Γ.2.2.2 + r0)), some (.int x1)] [.ref (Γ.2.2.2 + q0)] (M, ρ)) ∧ (∀ (r0 : Nat) (x1 : Int32) (s0 : Int32) (q1 : Nat) (M : ao_M) (y : Int32 × ao_M), fX12_order n 18 r0 x1 0 s0 q1 M ρ = some y → ao_W Γ uX12_order (ao_rm d 0 0) (ao_Q Γ (ao_PI ρ y) 0 0) 0 0 18 [some (.ref (Γ.2.2.2 + r0)), some (.int x1)] [.int s0, .ref (Γ.2.2.2 + q1)] (M, ρ)) := by
  intro n
  induction n with
  | zero => exact ⟨fun _ _ _ _ h => ao_no h, fun _ _ _ _ _ h => ao_no h, fun _ _ _ _ _ _ h => ao_no h⟩
  | succ n ih =>
    refine ⟨?_, ?_, ?_⟩
    · intro r0 x1 M y h
      replace h := ao_ifT h rfl
      refine ao_aload_n 0 dX12_order_0 rfl rfl ?_
      refine ao_iload_n 1 dX12_order_1 rfl rfl ?_
      refine ao_if_lt 13 dX12_order_2 (by decide) (fun c1 => ?_) (fun c1 => ?_)
      · replace h := ao_ifT h c1
        exact ih.2.1 r0 x1 r0 M _ h
      · replace h := ao_ifF h c1
        refine ao_iload_n 1 dX12_order_5 rfl rfl ?_
        refine ao_aload_n 0 dX12_order_6 rfl rfl ?_
        obtain ⟨hk2, h⟩ := ao_some h
        refine an_getI r0 12 82 (q := (RX12, TX12, 83)) dX12_order_7 rfl hk2 (Nat.le_of_ble_eq_true rfl) rfl lf_X12_347 ?_
        refine ao_icmp_lt 17 dX12_order_10 (by decide) (fun c3 => ?_) (fun c3 => ?_)
        · replace h := ao_ifT h c3
          refine ao_iconst (v := 0) dX12_order_17 (by decide) ?_
          exact ih.2.2 r0 x1 (0 : Int32) r0 M _ h
        · replace h := ao_ifF h c3
          exact ih.2.1 r0 x1 r0 M _ h
    · intro r0 x1 q0 M y h
      replace h := ao_ifF h (by decide)
      replace h := ao_ifT h rfl
      refine ao_iconst (v := 1) dX12_order_13 (by decide) ?_
      refine ao_goto 18 dX12_order_14 (by decide) ?_
      exact ih.2.2 r0 x1 (1 : Int32) q0 M _ h
    · intro r0 x1 s0 q1 M y h
      replace h := ao_ifF h (by decide)
      replace h := ao_ifF h (by decide)
      replace h := ao_ifT h rfl
      obtain ⟨hk4, h⟩ := ao_some h
      obtain ⟨p5, hp5, h⟩ := ao_bind h
      refine an_callVi q1 12 (q := (RX12, TX12, 83)) [.int s0] (aX12_fails (d - 1) (by omega) q1 s0 M ρ hp5) dX12_order_18 lc_X12_497 li_X12_fails ls_X12_fails rfl hk4 rfl rfl (Nat.le_of_ble_eq_true rfl) (ao_hR (by omega) (by decide)) ?_
      refine ao_if_eq 26 dX12_order_21 (by decide) (fun c6 => ?_) (fun c6 => ?_)
      · replace h := ao_ifT h c6
        refine ao_aload_n 0 dX12_order_26 rfl rfl ?_
        obtain ⟨hk7, h⟩ := ao_some h
        obtain ⟨j8, hj8, h⟩ := ao_bind h
        refine an_getR r0 12 78 (q := (RX12, TX12, 83)) dX12_order_27 rfl hk7 (Nat.le_of_ble_eq_true rfl) rfl lf_X12_317 hj8 ?_
        refine ao_iload_n 1 dX12_order_30 rfl rfl ?_
        obtain ⟨hk9, h⟩ := ao_some h
        obtain ⟨hb10, h⟩ := ao_some h
        refine an_iaload j8 dX12_order_31 hk9 hb10 ?_
        cases h
        exact ao_ireturn dX12_order_32 rfl rfl ⟨rfl, rfl⟩
      · replace h := ao_ifF h c6
        refine ao_iconst (v := 0) dX12_order_24 (by decide) ?_
        cases h
        exact ao_ireturn dX12_order_25 rfl rfl ⟨rfl, rfl⟩
set_option maxRecDepth 100000 in
set_option maxHeartbeats 4000000 in
theorem aX12_order {Γ : ao_C} (d : Nat) (hd : 1 ≤ d) (n : Nat) (r0 : Nat) (x1 : Int32) (M : ao_M) (ρ : ao_H) {y : Int32 × ao_M} (h : gX12_order n r0 x1 M ρ = some y) : ao_A Γ uX12_order d 0 0 [.ref (Γ.2.2.2 + r0), .int x1] (M, ρ) (ao_PI ρ y) := by
  refine ao_of (by decide) (ao_cat1 (Nat.le_of_ble_eq_true rfl)) (Nat.le_of_ble_eq_true rfl) ?_
  show ao_W Γ uX12_order (ao_rm d 0 0) (ao_Q Γ (ao_PI ρ y) 0 0) 0 0 0 [some (.ref (Γ.2.2.2 + r0)), some (.int x1)] [] (M, ρ)
  exact (wX12_order d hd n).1 r0 x1 M y h

abbrev uX12_record : ao_Mi := (yX12_record, cX12_record, 5, (some .int), [])
def fX12_record : Nat → Nat → Nat → Int32 → Int32 → Int32 → Int32 → Nat → Int32 → Nat →  ao_M → ao_H → Option (Int32 × ao_M)
  | 0, _, _, _, _, _, _, _, _, _, _, _ => none
  | n + 1, pc, r0, x1, x2, x3, x4, q0, s0, q1, M, ρ =>
    if pc = 0 then
      if x2 < 0 then
        fX12_record n 10 r0 x1 x2 0 0 r0 0 0 M ρ
      else
        if x2 ≤ (4 : Int32) then
          if x1 < 0 then
            fX12_record n 26 r0 x1 x2 0 0 r0 0 0 M ρ
          else
            if ρ.2.1 r0 = 22 then
            if x1 < (M r0 76) then
              fX12_record n 31 r0 x1 x2 0 0 0 (0 : Int32) r0 M ρ
            else
              fX12_record n 26 r0 x1 x2 0 0 r0 0 0 M ρ
            else none
        else
          fX12_record n 10 r0 x1 x2 0 0 r0 0 0 M ρ
    else if pc = 10 then
      fX12_record n 31 r0 x1 x2 0 0 0 (1 : Int32) q0 M ρ
    else if pc = 26 then
      fX12_record n 31 r0 x1 x2 0 0 0 (2 : Int32) q0 M ρ
    else if pc = 31 then
      if ρ.2.1 q1 = 22 then
      (gX12_fails q1 s0 M ρ).bind fun p7 =>
      if p7.1 = 0 then
        ao_let (x1 * (26 : Int32)) fun v9 =>
        fX12_record n 47 r0 x1 x2 (0 : Int32) v9 0 0 0 p7.2 ρ
      else
        some ((0 : Int32), p7.2)
      else none
    else if pc = 47 then
      if ((x1 * (26 : Int32)) + (26 : Int32)) ≤ x4 then
        if x2 = 0 then
          if ρ.2.1 r0 = 22 then
          (ρ.1 r0 69).bind fun j23 =>
          if ρ.2.1 j23 = 0 then
          if ¬ (x1 < 0 ∨ ρ.2.2.1 j23 ≤ x1.toNatClampNeg) then
          some ((M j23 x1.toNatClampNeg), M)
          else none
          else none
          else none
        else
          if x2 = (3 : Int32) then
            if ρ.2.1 r0 = 22 then
            (ρ.1 r0 70).bind fun j19 =>
            if ρ.2.1 j19 = 0 then
            if ¬ (x1 < 0 ∨ ρ.2.2.1 j19 ≤ x1.toNatClampNeg) then
            some ((M j19 x1.toNatClampNeg), M)
            else none
            else none
            else none
          else
            if x2 = (4 : Int32) then
              if ρ.2.1 r0 = 22 then
              (ρ.1 r0 71).bind fun j15 =>
              if ρ.2.1 j15 = 0 then
              if ¬ (x1 < 0 ∨ ρ.2.2.1 j15 ≤ x1.toNatClampNeg) then
              some ((M j15 x1.toNatClampNeg), M)
              else none
              else none
              else none
            else
              some (x3, M)
      else
        if x2 = (1 : Int32) then
          if ρ.2.1 r0 = 22 then
          (ρ.1 r0 74).bind fun j33 =>
          if ρ.2.1 j33 = 2 then
          if ¬ (x4 < 0 ∨ ρ.2.2.1 j33 ≤ x4.toNatClampNeg) then
          if (M j33 x4.toNatClampNeg) = 0 then
            fX12_record n 90 r0 x1 x2 x3 x4 0 0 0 M ρ
          else
            fX12_record n 87 r0 x1 x2 x3 x4 0 0 0 M ρ
          else none
          else none
          else none
        else
          if ρ.2.1 r0 = 22 then
          (ρ.1 r0 75).bind fun j28 =>
          if ρ.2.1 j28 = 2 then
          if ¬ (x4 < 0 ∨ ρ.2.2.1 j28 ≤ x4.toNatClampNeg) then
          if (M j28 x4.toNatClampNeg) = 0 then
            fX12_record n 90 r0 x1 x2 x3 x4 0 0 0 M ρ
          else
            fX12_record n 87 r0 x1 x2 x3 x4 0 0 0 M ρ
          else none
          else none
          else none
    else if pc = 87 then
      ao_let (x3 + (1 : Int32)) fun v37 =>
      fX12_record n 90 r0 x1 x2 v37 x4 0 0 0 M ρ
    else if pc = 90 then
      ao_let (x4 + (1 : Int32)) fun v38 =>
      fX12_record n 47 r0 x1 x2 x3 v38 0 0 0 M ρ
    else none
def gX12_record (n : Nat) (r0 : Nat) (x1 : Int32) (x2 : Int32) (M : ao_M) (ρ : ao_H) : Option (Int32 × ao_M) := fX12_record n 0 r0 x1 x2 0 0 0 0 0 M ρ
set_option maxRecDepth 100000 in
set_option maxHeartbeats 4000000 in
theorem wX12_record {Γ : ao_C} {ρ : ao_H} (d : Nat) (hd : 1 ≤ d) : ∀ n : Nat, (∀ (r0 : Nat) (x1 : Int32) (x2 : Int32) (M : ao_M) (y : Int32 × ao_M), fX12_record n 0 r0 x1 x2 0 0 0 0 0 M ρ = some y → ao_W Γ uX12_record (ao_rm d 0 0) (ao_Q Γ (ao_PI ρ y) 0 0) 0 0 0 [some (.ref (Γ.2.2.2 + r0)), some (.int x1), some (.int x2), none, none] [] (M, ρ)) ∧ (∀ (r0 : Nat) (x1 : Int32) (x2 : Int32) (q0 : Nat) (M : ao_M) (y : Int32 × ao_M), fX12_record n 10 r0 x1 x2 0 0 q0 0 0 M ρ = some y → ao_W Γ uX12_record (ao_rm d 0 0) (ao_Q Γ (ao_PI ρ y) 0 0) 0 0 10 [some (.ref (Γ.2.2.2 + r0)), some (.int x1), some (.int x2), none, none] [.ref (Γ.2.2.2 + q0)] (M, ρ)) ∧ (∀ (r0 : Nat) (x1 : Int32) (x2 : Int32) (q0 : Nat) (M : ao_M) (y : Int32 × ao_M), fX12_record n 26 r0 x1 x2 0 0 q0 0 0 M ρ = some y → ao_W Γ uX12_record (ao_rm d 0 0) (ao_Q Γ (ao_PI ρ y) 0 0) 0 0 26 [some (.ref (Γ.2.2.2 + r0)), some (.int x1), some (.int x2), none, none] [.ref (Γ.2.2.2 + q0)] (M, ρ)) ∧ (∀ (r0 : Nat) (x1 : Int32) (x2 : Int32) (s0 : Int32) (q1 : Nat) (M : ao_M) (y : Int32 × ao_M), fX12_record n 31 r0 x1 x2 0 0 0 s0 q1 M ρ = some y → ao_W Γ uX12_record (ao_rm d 0 0) (ao_Q Γ (ao_PI ρ y) 0 0) 0 0 31 [some (.ref (Γ.2.2.2 + r0)), some (.int x1), some (.int x2), none, none] [.int s0, .ref (Γ.2.2.2 + q1)] (M, ρ)) ∧ (∀ (r0 : Nat) (x1 : Int32) (x2 : Int32) (x3 : Int32) (x4 : Int32) (M : ao_M) (y : Int32 × ao_M), fX12_record n 47 r0 x1 x2 x3 x4 0 0 0 M ρ = some y → ao_W Γ uX12_record (ao_rm d 0 0) (ao_Q Γ (ao_PI ρ y) 0 0) 0 0 47 [some (.ref (Γ.2.2.2 + r0)), some (.int x1), some (.int x2), some (.int x3), some (.int x4)] [] (M, ρ)) ∧ (∀ (r0 : Nat) (x1 : Int32) (x2 : Int32) (x3 : Int32) (x4 : Int32) (M : ao_M) (y : Int32 × ao_M), fX12_record n 87 r0 x1 x2 x3 x4 0 0 0 M ρ = some y → ao_W Γ uX12_record (ao_rm d 0 0) (ao_Q Γ (ao_PI ρ y) 0 0) 0 0 87 [some (.ref (Γ.2.2.2 + r0)), some (.int x1), some (.int x2), some (.int x3), some (.int x4)] [] (M, ρ)) ∧ (∀ (r0 : Nat) (x1 : Int32) (x2 : Int32) (x3 : Int32) (x4 : Int32) (M : ao_M) (y : Int32 × ao_M), fX12_record n 90 r0 x1 x2 x3 x4 0 0 0 M ρ = some y → ao_W Γ uX12_record (ao_rm d 0 0) (ao_Q Γ (ao_PI ρ y) 0 0) 0 0 90 [some (.ref (Γ.2.2.2 + r0)), some (.int x1), some (.int x2), some (.int x3), some (.int x4)] [] (M, ρ)) := by
  intro n
  induction n with
  | zero => exact ⟨fun _ _ _ _ _ h => ao_no h, fun _ _ _ _ _ _ h => ao_no h, fun _ _ _ _ _ _ h => ao_no h, fun _ _ _ _ _ _ _ h => ao_no h, fun _ _ _ _ _ _ _ h => ao_no h, fun _ _ _ _ _ _ _ h => ao_no h, fun _ _ _ _ _ _ _ h => ao_no h⟩
  | succ n ih =>
    refine ⟨?_, ?_, ?_, ?_, ?_, ?_, ?_⟩
    · intro r0 x1 x2 M y h
      replace h := ao_ifT h rfl
      refine ao_aload_n 0 dX12_record_0 rfl rfl ?_
      refine ao_iload_n 2 dX12_record_1 rfl rfl ?_
      refine ao_if_lt 10 dX12_record_2 (by decide) (fun c1 => ?_) (fun c1 => ?_)
      · replace h := ao_ifT h c1
        exact ih.2.1 r0 x1 x2 r0 M _ h
      · replace h := ao_ifF h c1
        refine ao_iload_n 2 dX12_record_5 rfl rfl ?_
        refine ao_iconst (v := 4) dX12_record_6 (by decide) ?_
        refine ao_icmp_le 14 dX12_record_7 (by decide) (fun c2 => ?_) (fun c2 => ?_)
        · replace h := ao_ifT h c2
          refine ao_iload_n 1 dX12_record_14 rfl rfl ?_
          refine ao_if_lt 26 dX12_record_15 (by decide) (fun c3 => ?_) (fun c3 => ?_)
          · replace h := ao_ifT h c3
            exact ih.2.2.1 r0 x1 x2 r0 M _ h
          · replace h := ao_ifF h c3
            refine ao_iload_n 1 dX12_record_18 rfl rfl ?_
            refine ao_aload_n 0 dX12_record_19 rfl rfl ?_
            obtain ⟨hk4, h⟩ := ao_some h
            refine an_getI r0 12 76 (q := (RX12, TX12, 83)) dX12_record_20 rfl hk4 (Nat.le_of_ble_eq_true rfl) rfl lf_X12_338 ?_
            refine ao_icmp_lt 30 dX12_record_23 (by decide) (fun c5 => ?_) (fun c5 => ?_)
            · replace h := ao_ifT h c5
              refine ao_iconst (v := 0) dX12_record_30 (by decide) ?_
              exact ih.2.2.2.1 r0 x1 x2 (0 : Int32) r0 M _ h
            · replace h := ao_ifF h c5
              exact ih.2.2.1 r0 x1 x2 r0 M _ h
        · replace h := ao_ifF h c2
          exact ih.2.1 r0 x1 x2 r0 M _ h
    · intro r0 x1 x2 q0 M y h
      replace h := ao_ifF h (by decide)
      replace h := ao_ifT h rfl
      refine ao_iconst (v := 1) dX12_record_10 (by decide) ?_
      refine ao_goto 31 dX12_record_11 (by decide) ?_
      exact ih.2.2.2.1 r0 x1 x2 (1 : Int32) q0 M _ h
    · intro r0 x1 x2 q0 M y h
      replace h := ao_ifF h (by decide)
      replace h := ao_ifF h (by decide)
      replace h := ao_ifT h rfl
      refine ao_iconst (v := 2) dX12_record_26 (by decide) ?_
      refine ao_goto 31 dX12_record_27 (by decide) ?_
      exact ih.2.2.2.1 r0 x1 x2 (2 : Int32) q0 M _ h
    · intro r0 x1 x2 s0 q1 M y h
      replace h := ao_ifF h (by decide)
      replace h := ao_ifF h (by decide)
      replace h := ao_ifF h (by decide)
      replace h := ao_ifT h rfl
      obtain ⟨hk6, h⟩ := ao_some h
      obtain ⟨p7, hp7, h⟩ := ao_bind h
      refine an_callVi q1 12 (q := (RX12, TX12, 83)) [.int s0] (aX12_fails (d - 1) (by omega) q1 s0 M ρ hp7) dX12_record_31 lc_X12_497 li_X12_fails ls_X12_fails rfl hk6 rfl rfl (Nat.le_of_ble_eq_true rfl) (ao_hR (by omega) (by decide)) ?_
      refine ao_if_eq 39 dX12_record_34 (by decide) (fun c8 => ?_) (fun c8 => ?_)
      · replace h := ao_ifT h c8
        refine ao_iconst (v := 0) dX12_record_39 (by decide) ?_
        refine ao_istore_n 3 (lo' := [some (.ref (Γ.2.2.2 + r0)), some (.int x1), some (.int x2), some (.int (0 : Int32)), none]) dX12_record_40 rfl (Nat.le_of_ble_eq_true rfl) rfl ?_
        refine ao_iload_n 1 dX12_record_41 rfl rfl ?_
        refine ao_bipush (v := 26) dX12_record_42 (by decide) ?_
        refine ao_imul dX12_record_44 ?_
        refine an_topi (fun v9 hv9 => ?_)
        replace h := ao_letD h hv9
        refine ao_istore 4 (lo' := [some (.ref (Γ.2.2.2 + r0)), some (.int x1), some (.int x2), some (.int (0 : Int32)), some (.int v9)]) dX12_record_45 (Nat.le_of_ble_eq_true rfl) rfl ?_
        exact ih.2.2.2.2.1 r0 x1 x2 (0 : Int32) v9 p7.2 _ h
      · replace h := ao_ifF h c8
        refine ao_iconst (v := 0) dX12_record_37 (by decide) ?_
        cases h
        exact ao_ireturn dX12_record_38 rfl rfl ⟨rfl, rfl⟩
    · intro r0 x1 x2 x3 x4 M y h
      replace h := ao_ifF h (by decide)
      replace h := ao_ifF h (by decide)
      replace h := ao_ifF h (by decide)
      replace h := ao_ifF h (by decide)
      replace h := ao_ifT h rfl
      refine ao_iload 4 dX12_record_47 rfl ?_
      refine ao_iload_n 1 dX12_record_49 rfl rfl ?_
      refine ao_bipush (v := 26) dX12_record_50 (by decide) ?_
      refine ao_imul dX12_record_52 ?_
      refine ao_bipush (v := 26) dX12_record_53 (by decide) ?_
      refine ao_iadd dX12_record_55 ?_
      refine ao_icmp_ge 96 dX12_record_56 (by decide) (fun c10 => ?_) (fun c10 => ?_)
      · replace h := ao_ifT h c10
        refine ao_iload_n 2 dX12_record_96 rfl rfl ?_
        refine ao_if_ne 109 dX12_record_97 (by decide) (fun c11 => ?_) (fun c11 => ?_)
        · replace h := ao_ifF h c11
          refine ao_iload_n 2 dX12_record_109 rfl rfl ?_
          refine ao_iconst (v := 3) dX12_record_110 (by decide) ?_
          refine ao_icmp_ne 123 dX12_record_111 (by decide) (fun c12 => ?_) (fun c12 => ?_)
          · replace h := ao_ifF h c12
            refine ao_iload_n 2 dX12_record_123 rfl rfl ?_
            refine ao_iconst (v := 4) dX12_record_124 (by decide) ?_
            refine ao_icmp_ne 137 dX12_record_125 (by decide) (fun c13 => ?_) (fun c13 => ?_)
            · replace h := ao_ifF h c13
              refine ao_iload_n 3 dX12_record_137 rfl rfl ?_
              cases h
              exact ao_ireturn dX12_record_138 rfl rfl ⟨rfl, rfl⟩
            · replace h := ao_ifT h c13
              refine ao_aload_n 0 dX12_record_128 rfl rfl ?_
              obtain ⟨hk14, h⟩ := ao_some h
              obtain ⟨j15, hj15, h⟩ := ao_bind h
              refine an_getR r0 12 71 (q := (RX12, TX12, 83)) dX12_record_129 rfl hk14 (Nat.le_of_ble_eq_true rfl) rfl lf_X12_302 hj15 ?_
              refine ao_iload_n 1 dX12_record_132 rfl rfl ?_
              obtain ⟨hk16, h⟩ := ao_some h
              obtain ⟨hb17, h⟩ := ao_some h
              refine an_iaload j15 dX12_record_133 hk16 hb17 ?_
              refine ao_goto 138 dX12_record_134 (by decide) ?_
              cases h
              exact ao_ireturn dX12_record_138 rfl rfl ⟨rfl, rfl⟩
          · replace h := ao_ifT h c12
            refine ao_aload_n 0 dX12_record_114 rfl rfl ?_
            obtain ⟨hk18, h⟩ := ao_some h
            obtain ⟨j19, hj19, h⟩ := ao_bind h
            refine an_getR r0 12 70 (q := (RX12, TX12, 83)) dX12_record_115 rfl hk18 (Nat.le_of_ble_eq_true rfl) rfl lf_X12_299 hj19 ?_
            refine ao_iload_n 1 dX12_record_118 rfl rfl ?_
            obtain ⟨hk20, h⟩ := ao_some h
            obtain ⟨hb21, h⟩ := ao_some h
            refine an_iaload j19 dX12_record_119 hk20 hb21 ?_
            refine ao_goto 138 dX12_record_120 (by decide) ?_
            cases h
            exact ao_ireturn dX12_record_138 rfl rfl ⟨rfl, rfl⟩
        · replace h := ao_ifT h c11
          refine ao_aload_n 0 dX12_record_100 rfl rfl ?_
          obtain ⟨hk22, h⟩ := ao_some h
          obtain ⟨j23, hj23, h⟩ := ao_bind h
          refine an_getR r0 12 69 (q := (RX12, TX12, 83)) dX12_record_101 rfl hk22 (Nat.le_of_ble_eq_true rfl) rfl lf_X12_296 hj23 ?_
          refine ao_iload_n 1 dX12_record_104 rfl rfl ?_
          obtain ⟨hk24, h⟩ := ao_some h
          obtain ⟨hb25, h⟩ := ao_some h
          refine an_iaload j23 dX12_record_105 hk24 hb25 ?_
          refine ao_goto 138 dX12_record_106 (by decide) ?_
          cases h
          exact ao_ireturn dX12_record_138 rfl rfl ⟨rfl, rfl⟩
      · replace h := ao_ifF h c10
        refine ao_iload_n 2 dX12_record_59 rfl rfl ?_
        refine ao_iconst (v := 1) dX12_record_60 (by decide) ?_
        refine ao_icmp_ne 77 dX12_record_61 (by decide) (fun c26 => ?_) (fun c26 => ?_)
        · replace h := ao_ifF h c26
          refine ao_aload_n 0 dX12_record_77 rfl rfl ?_
          obtain ⟨hk27, h⟩ := ao_some h
          obtain ⟨j28, hj28, h⟩ := ao_bind h
          refine an_getR r0 12 75 (q := (RX12, TX12, 83)) dX12_record_78 rfl hk27 (Nat.le_of_ble_eq_true rfl) rfl lf_X12_314 hj28 ?_
          refine ao_iload 4 dX12_record_81 rfl ?_
          obtain ⟨hk29, h⟩ := ao_some h
          obtain ⟨hb30, h⟩ := ao_some h
          refine an_zaload j28 dX12_record_83 hk29 hb30 ?_
          refine ao_if_eq 90 dX12_record_84 (by decide) (fun c31 => ?_) (fun c31 => ?_)
          · replace h := ao_ifT h c31
            exact ih.2.2.2.2.2.2 r0 x1 x2 x3 x4 M _ h
          · replace h := ao_ifF h c31
            exact ih.2.2.2.2.2.1 r0 x1 x2 x3 x4 M _ h
        · replace h := ao_ifT h c26
          refine ao_aload_n 0 dX12_record_64 rfl rfl ?_
          obtain ⟨hk32, h⟩ := ao_some h
          obtain ⟨j33, hj33, h⟩ := ao_bind h
          refine an_getR r0 12 74 (q := (RX12, TX12, 83)) dX12_record_65 rfl hk32 (Nat.le_of_ble_eq_true rfl) rfl lf_X12_311 hj33 ?_
          refine ao_iload 4 dX12_record_68 rfl ?_
          obtain ⟨hk34, h⟩ := ao_some h
          obtain ⟨hb35, h⟩ := ao_some h
          refine an_zaload j33 dX12_record_70 hk34 hb35 ?_
          refine ao_if_eq 90 dX12_record_71 (by decide) (fun c36 => ?_) (fun c36 => ?_)
          · replace h := ao_ifT h c36
            exact ih.2.2.2.2.2.2 r0 x1 x2 x3 x4 M _ h
          · replace h := ao_ifF h c36
            refine ao_goto 87 dX12_record_74 (by decide) ?_
            exact ih.2.2.2.2.2.1 r0 x1 x2 x3 x4 M _ h
    · intro r0 x1 x2 x3 x4 M y h
      replace h := ao_ifF h (by decide)
      replace h := ao_ifF h (by decide)
      replace h := ao_ifF h (by decide)
      replace h := ao_ifF h (by decide)
      replace h := ao_ifF h (by decide)
      replace h := ao_ifT h rfl
      obtain ⟨v37, hv37⟩ : ∃ z : Int32, z = x3 + (1 : Int32) := ⟨_, rfl⟩
      replace h := ao_letD h hv37
      refine ao_iinc 3 (v := v37) (lo' := [some (.ref (Γ.2.2.2 + r0)), some (.int x1), some (.int x2), some (.int v37), some (.int x4)]) dX12_record_87 rfl (by rw [hv37]; rfl) (Nat.le_of_ble_eq_true rfl) rfl ?_
      exact ih.2.2.2.2.2.2 r0 x1 x2 v37 x4 M _ h
    · intro r0 x1 x2 x3 x4 M y h
      replace h := ao_ifF h (by decide)
      replace h := ao_ifF h (by decide)
      replace h := ao_ifF h (by decide)
      replace h := ao_ifF h (by decide)
      replace h := ao_ifF h (by decide)
      replace h := ao_ifF h (by decide)
      replace h := ao_ifT h rfl
      obtain ⟨v38, hv38⟩ : ∃ z : Int32, z = x4 + (1 : Int32) := ⟨_, rfl⟩
      replace h := ao_letD h hv38
      refine ao_iinc 4 (v := v38) (lo' := [some (.ref (Γ.2.2.2 + r0)), some (.int x1), some (.int x2), some (.int x3), some (.int v38)]) dX12_record_90 rfl (by rw [hv38]; rfl) (Nat.le_of_ble_eq_true rfl) rfl ?_
      refine ao_goto 47 dX12_record_93 (by decide) ?_
      exact ih.2.2.2.2.1 r0 x1 x2 x3 v38 M _ h
set_option maxRecDepth 100000 in
set_option maxHeartbeats 4000000 in
theorem aX12_record {Γ : ao_C} (d : Nat) (hd : 1 ≤ d) (n : Nat) (r0 : Nat) (x1 : Int32) (x2 : Int32) (M : ao_M) (ρ : ao_H) {y : Int32 × ao_M} (h : gX12_record n r0 x1 x2 M ρ = some y) : ao_A Γ uX12_record d 0 0 [.ref (Γ.2.2.2 + r0), .int x1, .int x2] (M, ρ) (ao_PI ρ y) := by
  refine ao_of (by decide) (ao_cat1 (Nat.le_of_ble_eq_true rfl)) (Nat.le_of_ble_eq_true rfl) ?_
  show ao_W Γ uX12_record (ao_rm d 0 0) (ao_Q Γ (ao_PI ρ y) 0 0) 0 0 0 [some (.ref (Γ.2.2.2 + r0)), some (.int x1), some (.int x2), none, none] [] (M, ρ)
  exact (wX12_record d hd n).1 r0 x1 x2 M y h

abbrev uX12_count : ao_Mi := (yX12_count, cX12_count, 4, (some .int), [])
def fX12_count : Nat → Nat → Nat → Int32 → Int32 → Int32 → Nat → Int32 → Nat → Int32 →  ao_M → ao_H → Option (Int32 × ao_M)
  | 0, _, _, _, _, _, _, _, _, _, _, _ => none
  | n + 1, pc, r0, x1, x2, x3, q0, s0, q1, s1, M, ρ =>
    if pc = 0 then
      if x1 < 0 then
        fX12_count n 11 r0 x1 0 0 r0 0 0 0 M ρ
      else
        if x1 ≤ (8 : Int32) then
          fX12_count n 16 r0 x1 0 0 0 (0 : Int32) r0 0 M ρ
        else
          fX12_count n 11 r0 x1 0 0 r0 0 0 0 M ρ
    else if pc = 11 then
      fX12_count n 16 r0 x1 0 0 0 (1 : Int32) q0 0 M ρ
    else if pc = 16 then
      if ρ.2.1 q1 = 22 then
      (gX12_fails q1 s0 M ρ).bind fun p4 =>
      if p4.1 = 0 then
        if x1 = (0 : Int32) then
          if ρ.2.1 r0 = 22 then
          some ((p4.2 r0 6), p4.2)
          else none
        else
          if x1 = (1 : Int32) then
            if ρ.2.1 r0 = 22 then
            some ((p4.2 r0 27), p4.2)
            else none
          else
            if x1 = (2 : Int32) then
              if ρ.2.1 r0 = 22 then
              some ((p4.2 r0 26), p4.2)
              else none
            else
              if x1 = (3 : Int32) then
                if ρ.2.1 r0 = 22 then
                some ((p4.2 r0 65), p4.2)
                else none
              else
                if x1 = (4 : Int32) then
                  if ρ.2.1 r0 = 22 then
                  some ((p4.2 r0 68), p4.2)
                  else none
                else
                  if x1 = (5 : Int32) then
                    if ρ.2.1 r0 = 22 then
                    some ((p4.2 r0 76), p4.2)
                    else none
                  else
                    if x1 = (6 : Int32) then
                      fX12_count n 102 r0 x1 (0 : Int32) 0 0 0 0 0 p4.2 ρ
                    else
                      if x1 = (7 : Int32) then
                        fX12_count n 102 r0 x1 (0 : Int32) 0 0 0 0 0 p4.2 ρ
                      else
                        fX12_count n 143 r0 x1 (0 : Int32) (0 : Int32) 0 0 0 0 p4.2 ρ
      else
        some ((0 : Int32), p4.2)
      else none
    else if pc = 102 then
      fX12_count n 104 r0 x1 x2 (0 : Int32) 0 0 0 0 M ρ
    else if pc = 104 then
      if (6 : Int32) ≤ x3 then
        some (x2, M)
      else
        if ρ.2.1 r0 = 22 then
        (ρ.1 r0 29).bind fun j22 =>
        if ρ.2.1 j22 = 0 then
        if ¬ (x3 < 0 ∨ ρ.2.2.1 j22 ≤ x3.toNatClampNeg) then
        if x1 = (6 : Int32) then
          fX12_count n 127 r0 x1 x2 x3 0 (2 : Int32) 0 (M j22 x3.toNatClampNeg) M ρ
        else
          fX12_count n 127 r0 x1 x2 x3 0 (3 : Int32) 0 (M j22 x3.toNatClampNeg) M ρ
        else none
        else none
        else none
    else if pc = 127 then
      if s1 = s0 then
        ao_let (x2 + (1 : Int32)) fun v27 =>
        fX12_count n 133 r0 x1 v27 x3 0 0 0 0 M ρ
      else
        fX12_count n 133 r0 x1 x2 x3 0 0 0 0 M ρ
    else if pc = 133 then
      ao_let (x3 + (1 : Int32)) fun v28 =>
      fX12_count n 104 r0 x1 x2 v28 0 0 0 0 M ρ
    else if pc = 143 then
      if (26 : Int32) ≤ x3 then
        some (x2, M)
      else
        if ρ.2.1 r0 = 22 then
        (ρ.1 r0 19).bind fun j31 =>
        if ρ.2.1 j31 = 0 then
        if ¬ (x3 < 0 ∨ ρ.2.2.1 j31 ≤ x3.toNatClampNeg) then
        if (M j31 x3.toNatClampNeg) < 0 then
          fX12_count n 161 r0 x1 x2 x3 0 0 0 0 M ρ
        else
          ao_let (x2 + (1 : Int32)) fun v35 =>
          fX12_count n 161 r0 x1 v35 x3 0 0 0 0 M ρ
        else none
        else none
        else none
    else if pc = 161 then
      ao_let (x3 + (1 : Int32)) fun v36 =>
      fX12_count n 143 r0 x1 x2 v36 0 0 0 0 M ρ
    else none
def gX12_count (n : Nat) (r0 : Nat) (x1 : Int32) (M : ao_M) (ρ : ao_H) : Option (Int32 × ao_M) := fX12_count n 0 r0 x1 0 0 0 0 0 0 M ρ
set_option maxRecDepth 100000 in
set_option maxHeartbeats 4000000 in
theorem wX12_count {Γ : ao_C} {ρ : ao_H} (d : Nat) (hd : 1 ≤ d) : ∀ n : Nat, (∀ (r0 : Nat) (x1 : Int32) (M : ao_M) (y : Int32 × ao_M), fX12_count n 0 r0 x1 0 0 0 0 0 0 M ρ = some y → ao_W Γ uX12_count (ao_rm d 0 0) (ao_Q Γ (ao_PI ρ y) 0 0) 0 0 0 [some (.ref (Γ.2.2.2 + r0)), some (.int x1), none, none] [] (M, ρ)) ∧ (∀ (r0 : Nat) (x1 : Int32) (q0 : Nat) (M : ao_M) (y : Int32 × ao_M), fX12_count n 11 r0 x1 0 0 q0 0 0 0 M ρ = some y → ao_W Γ uX12_count (ao_rm d 0 0) (ao_Q Γ (ao_PI ρ y) 0 0) 0 0 11 [some (.ref (Γ.2.2.2 + r0)), some (.int x1), none, none] [.ref (Γ.2.2.2 + q0)] (M, ρ)) ∧ (∀ (r0 : Nat) (x1 : Int32) (s0 : Int32) (q1 : Nat) (M : ao_M) (y : Int32 × ao_M), fX12_count n 16 r0 x1 0 0 0 s0 q1 0 M ρ = some y → ao_W Γ uX12_count (ao_rm d 0 0) (ao_Q Γ (ao_PI ρ y) 0 0) 0 0 16 [some (.ref (Γ.2.2.2 + r0)), some (.int x1), none, none] [.int s0, .ref (Γ.2.2.2 + q1)] (M, ρ)) ∧ (∀ (r0 : Nat) (x1 : Int32) (x2 : Int32) (M : ao_M) (y : Int32 × ao_M), fX12_count n 102 r0 x1 x2 0 0 0 0 0 M ρ = some y → ao_W Γ uX12_count (ao_rm d 0 0) (ao_Q Γ (ao_PI ρ y) 0 0) 0 0 102 [some (.ref (Γ.2.2.2 + r0)), some (.int x1), some (.int x2), none] [] (M, ρ)) ∧ (∀ (r0 : Nat) (x1 : Int32) (x2 : Int32) (x3 : Int32) (M : ao_M) (y : Int32 × ao_M), fX12_count n 104 r0 x1 x2 x3 0 0 0 0 M ρ = some y → ao_W Γ uX12_count (ao_rm d 0 0) (ao_Q Γ (ao_PI ρ y) 0 0) 0 0 104 [some (.ref (Γ.2.2.2 + r0)), some (.int x1), some (.int x2), some (.int x3)] [] (M, ρ)) ∧ (∀ (r0 : Nat) (x1 : Int32) (x2 : Int32) (x3 : Int32) (s0 : Int32) (s1 : Int32) (M : ao_M) (y : Int32 × ao_M), fX12_count n 127 r0 x1 x2 x3 0 s0 0 s1 M ρ = some y → ao_W Γ uX12_count (ao_rm d 0 0) (ao_Q Γ (ao_PI ρ y) 0 0) 0 0 127 [some (.ref (Γ.2.2.2 + r0)), some (.int x1), some (.int x2), some (.int x3)] [.int s0, .int s1] (M, ρ)) ∧ (∀ (r0 : Nat) (x1 : Int32) (x2 : Int32) (x3 : Int32) (M : ao_M) (y : Int32 × ao_M), fX12_count n 133 r0 x1 x2 x3 0 0 0 0 M ρ = some y → ao_W Γ uX12_count (ao_rm d 0 0) (ao_Q Γ (ao_PI ρ y) 0 0) 0 0 133 [some (.ref (Γ.2.2.2 + r0)), some (.int x1), some (.int x2), some (.int x3)] [] (M, ρ)) ∧ (∀ (r0 : Nat) (x1 : Int32) (x2 : Int32) (x3 : Int32) (M : ao_M) (y : Int32 × ao_M), fX12_count n 143 r0 x1 x2 x3 0 0 0 0 M ρ = some y → ao_W Γ uX12_count (ao_rm d 0 0) (ao_Q Γ (ao_PI ρ y) 0 0) 0 0 143 [some (.ref (Γ.2.2.2 + r0)), some (.int x1), some (.int x2), some (.int x3)] [] (M, ρ)) ∧ (∀ (r0 : Nat) (x1 : Int32) (x2 : Int32) (x3 : Int32) (M : ao_M) (y : Int32 × ao_M), fX12_count n 161 r0 x1 x2 x3 0 0 0 0 M ρ = some y → ao_W Γ uX12_count (ao_rm d 0 0) (ao_Q Γ (ao_PI ρ y) 0 0) 0 0 161 [some (.ref (Γ.2.2.2 + r0)), some (.int x1), some (.int x2), some (.int x3)] [] (M, ρ)) := by
  intro n
  induction n with
  | zero => exact ⟨fun _ _ _ _ h => ao_no h, fun _ _ _ _ _ h => ao_no h, fun _ _ _ _ _ _ h => ao_no h, fun _ _ _ _ _ h => ao_no h, fun _ _ _ _ _ _ h => ao_no h, fun _ _ _ _ _ _ _ _ h => ao_no h, fun _ _ _ _ _ _ h => ao_no h, fun _ _ _ _ _ _ h => ao_no h, fun _ _ _ _ _ _ h => ao_no h⟩
  | succ n ih =>
    refine ⟨?_, ?_, ?_, ?_, ?_, ?_, ?_, ?_, ?_⟩
    · intro r0 x1 M y h
      replace h := ao_ifT h rfl
      refine ao_aload_n 0 dX12_count_0 rfl rfl ?_
      refine ao_iload_n 1 dX12_count_1 rfl rfl ?_
      refine ao_if_lt 11 dX12_count_2 (by decide) (fun c1 => ?_) (fun c1 => ?_)
      · replace h := ao_ifT h c1
        exact ih.2.1 r0 x1 r0 M _ h
      · replace h := ao_ifF h c1
        refine ao_iload_n 1 dX12_count_5 rfl rfl ?_
        refine ao_bipush (v := 8) dX12_count_6 (by decide) ?_
        refine ao_icmp_le 15 dX12_count_8 (by decide) (fun c2 => ?_) (fun c2 => ?_)
        · replace h := ao_ifT h c2
          refine ao_iconst (v := 0) dX12_count_15 (by decide) ?_
          exact ih.2.2.1 r0 x1 (0 : Int32) r0 M _ h
        · replace h := ao_ifF h c2
          exact ih.2.1 r0 x1 r0 M _ h
    · intro r0 x1 q0 M y h
      replace h := ao_ifF h (by decide)
      replace h := ao_ifT h rfl
      refine ao_iconst (v := 1) dX12_count_11 (by decide) ?_
      refine ao_goto 16 dX12_count_12 (by decide) ?_
      exact ih.2.2.1 r0 x1 (1 : Int32) q0 M _ h
    · intro r0 x1 s0 q1 M y h
      replace h := ao_ifF h (by decide)
      replace h := ao_ifF h (by decide)
      replace h := ao_ifT h rfl
      obtain ⟨hk3, h⟩ := ao_some h
      obtain ⟨p4, hp4, h⟩ := ao_bind h
      refine an_callVi q1 12 (q := (RX12, TX12, 83)) [.int s0] (aX12_fails (d - 1) (by omega) q1 s0 M ρ hp4) dX12_count_16 lc_X12_497 li_X12_fails ls_X12_fails rfl hk3 rfl rfl (Nat.le_of_ble_eq_true rfl) (ao_hR (by omega) (by decide)) ?_
      refine ao_if_eq 24 dX12_count_19 (by decide) (fun c5 => ?_) (fun c5 => ?_)
      · replace h := ao_ifT h c5
        refine ao_iconst (v := 0) dX12_count_24 (by decide) ?_
        refine ao_istore_n 2 (lo' := [some (.ref (Γ.2.2.2 + r0)), some (.int x1), some (.int (0 : Int32)), none]) dX12_count_25 rfl (Nat.le_of_ble_eq_true rfl) rfl ?_
        refine ao_iload_n 1 dX12_count_26 rfl rfl ?_
        by_cases c6 : x1 = (0 : Int32)
        · replace h := ao_ifT h c6
          refine ao_tableIn 72 dX12_count_27 (by rw [c6]; decide) (by rw [c6]; decide) (by rw [c6]; rfl) (by decide) ?_
          refine ao_aload_n 0 dX12_count_72 rfl rfl ?_
          obtain ⟨hk7, h⟩ := ao_some h
          refine an_getI r0 12 6 (q := (RX12, TX12, 83)) dX12_count_73 rfl hk7 (Nat.le_of_ble_eq_true rfl) rfl lf_X12_494 ?_
          cases h
          exact ao_ireturn dX12_count_76 rfl rfl ⟨rfl, rfl⟩
        · replace h := ao_ifF h c6
          by_cases c8 : x1 = (1 : Int32)
          · replace h := ao_ifT h c8
            refine ao_tableIn 77 dX12_count_27 (by rw [c8]; decide) (by rw [c8]; decide) (by rw [c8]; rfl) (by decide) ?_
            refine ao_aload_n 0 dX12_count_77 rfl rfl ?_
            obtain ⟨hk9, h⟩ := ao_some h
            refine an_getI r0 12 27 (q := (RX12, TX12, 83)) dX12_count_78 rfl hk9 (Nat.le_of_ble_eq_true rfl) rfl lf_X12_332 ?_
            cases h
            exact ao_ireturn dX12_count_81 rfl rfl ⟨rfl, rfl⟩
          · replace h := ao_ifF h c8
            by_cases c10 : x1 = (2 : Int32)
            · replace h := ao_ifT h c10
              refine ao_tableIn 82 dX12_count_27 (by rw [c10]; decide) (by rw [c10]; decide) (by rw [c10]; rfl) (by decide) ?_
              refine ao_aload_n 0 dX12_count_82 rfl rfl ?_
              obtain ⟨hk11, h⟩ := ao_some h
              refine an_getI r0 12 26 (q := (RX12, TX12, 83)) dX12_count_83 rfl hk11 (Nat.le_of_ble_eq_true rfl) rfl lf_X12_148 ?_
              cases h
              exact ao_ireturn dX12_count_86 rfl rfl ⟨rfl, rfl⟩
            · replace h := ao_ifF h c10
              by_cases c12 : x1 = (3 : Int32)
              · replace h := ao_ifT h c12
                refine ao_tableIn 87 dX12_count_27 (by rw [c12]; decide) (by rw [c12]; decide) (by rw [c12]; rfl) (by decide) ?_
                refine ao_aload_n 0 dX12_count_87 rfl rfl ?_
                obtain ⟨hk13, h⟩ := ao_some h
                refine an_getI r0 12 65 (q := (RX12, TX12, 83)) dX12_count_88 rfl hk13 (Nat.le_of_ble_eq_true rfl) rfl lf_X12_341 ?_
                cases h
                exact ao_ireturn dX12_count_91 rfl rfl ⟨rfl, rfl⟩
              · replace h := ao_ifF h c12
                by_cases c14 : x1 = (4 : Int32)
                · replace h := ao_ifT h c14
                  refine ao_tableIn 92 dX12_count_27 (by rw [c14]; decide) (by rw [c14]; decide) (by rw [c14]; rfl) (by decide) ?_
                  refine ao_aload_n 0 dX12_count_92 rfl rfl ?_
                  obtain ⟨hk15, h⟩ := ao_some h
                  refine an_getI r0 12 68 (q := (RX12, TX12, 83)) dX12_count_93 rfl hk15 (Nat.le_of_ble_eq_true rfl) rfl lf_X12_335 ?_
                  cases h
                  exact ao_ireturn dX12_count_96 rfl rfl ⟨rfl, rfl⟩
                · replace h := ao_ifF h c14
                  by_cases c16 : x1 = (5 : Int32)
                  · replace h := ao_ifT h c16
                    refine ao_tableIn 97 dX12_count_27 (by rw [c16]; decide) (by rw [c16]; decide) (by rw [c16]; rfl) (by decide) ?_
                    refine ao_aload_n 0 dX12_count_97 rfl rfl ?_
                    obtain ⟨hk17, h⟩ := ao_some h
                    refine an_getI r0 12 76 (q := (RX12, TX12, 83)) dX12_count_98 rfl hk17 (Nat.le_of_ble_eq_true rfl) rfl lf_X12_338 ?_
                    cases h
                    exact ao_ireturn dX12_count_101 rfl rfl ⟨rfl, rfl⟩
                  · replace h := ao_ifF h c16
                    by_cases c18 : x1 = (6 : Int32)
                    · replace h := ao_ifT h c18
                      refine ao_tableIn 102 dX12_count_27 (by rw [c18]; decide) (by rw [c18]; decide) (by rw [c18]; rfl) (by decide) ?_
                      exact ih.2.2.2.1 r0 x1 (0 : Int32) p4.2 _ h
                    · replace h := ao_ifF h c18
                      by_cases c19 : x1 = (7 : Int32)
                      · replace h := ao_ifT h c19
                        refine ao_tableIn 102 dX12_count_27 (by rw [c19]; decide) (by rw [c19]; decide) (by rw [c19]; rfl) (by decide) ?_
                        exact ih.2.2.2.1 r0 x1 (0 : Int32) p4.2 _ h
                      · replace h := ao_ifF h c19
                        refine ao_tableOut 141 dX12_count_27 (by have nc6 := ao_ne (z := 0) c6 (by decide); have nc8 := ao_ne (z := 1) c8 (by decide); have nc10 := ao_ne (z := 2) c10 (by decide); have nc12 := ao_ne (z := 3) c12 (by decide); have nc14 := ao_ne (z := 4) c14 (by decide); have nc16 := ao_ne (z := 5) c16 (by decide); have nc18 := ao_ne (z := 6) c18 (by decide); have nc19 := ao_ne (z := 7) c19 (by decide); omega) (by decide) ?_
                        refine ao_iconst (v := 0) dX12_count_141 (by decide) ?_
                        refine ao_istore_n 3 (lo' := [some (.ref (Γ.2.2.2 + r0)), some (.int x1), some (.int (0 : Int32)), some (.int (0 : Int32))]) dX12_count_142 rfl (Nat.le_of_ble_eq_true rfl) rfl ?_
                        exact ih.2.2.2.2.2.2.2.1 r0 x1 (0 : Int32) (0 : Int32) p4.2 _ h
      · replace h := ao_ifF h c5
        refine ao_iconst (v := 0) dX12_count_22 (by decide) ?_
        cases h
        exact ao_ireturn dX12_count_23 rfl rfl ⟨rfl, rfl⟩
    · intro r0 x1 x2 M y h
      replace h := ao_ifF h (by decide)
      replace h := ao_ifF h (by decide)
      replace h := ao_ifF h (by decide)
      replace h := ao_ifT h rfl
      refine ao_iconst (v := 0) dX12_count_102 (by decide) ?_
      refine ao_istore_n 3 (lo' := [some (.ref (Γ.2.2.2 + r0)), some (.int x1), some (.int x2), some (.int (0 : Int32))]) dX12_count_103 rfl (Nat.le_of_ble_eq_true rfl) rfl ?_
      exact ih.2.2.2.2.1 r0 x1 x2 (0 : Int32) M _ h
    · intro r0 x1 x2 x3 M y h
      replace h := ao_ifF h (by decide)
      replace h := ao_ifF h (by decide)
      replace h := ao_ifF h (by decide)
      replace h := ao_ifF h (by decide)
      replace h := ao_ifT h rfl
      refine ao_iload_n 3 dX12_count_104 rfl rfl ?_
      refine ao_bipush (v := 6) dX12_count_105 (by decide) ?_
      refine ao_icmp_ge 139 dX12_count_107 (by decide) (fun c20 => ?_) (fun c20 => ?_)
      · replace h := ao_ifT h c20
        refine ao_iload_n 2 dX12_count_139 rfl rfl ?_
        cases h
        exact ao_ireturn dX12_count_140 rfl rfl ⟨rfl, rfl⟩
      · replace h := ao_ifF h c20
        refine ao_aload_n 0 dX12_count_110 rfl rfl ?_
        obtain ⟨hk21, h⟩ := ao_some h
        obtain ⟨j22, hj22, h⟩ := ao_bind h
        refine an_getR r0 12 29 (q := (RX12, TX12, 83)) dX12_count_111 rfl hk21 (Nat.le_of_ble_eq_true rfl) rfl lf_X12_187 hj22 ?_
        refine ao_iload_n 3 dX12_count_114 rfl rfl ?_
        obtain ⟨hk23, h⟩ := ao_some h
        obtain ⟨hb24, h⟩ := ao_some h
        refine an_iaload j22 dX12_count_115 hk23 hb24 ?_
        refine ao_iload_n 1 dX12_count_116 rfl rfl ?_
        refine ao_bipush (v := 6) dX12_count_117 (by decide) ?_
        refine ao_icmp_ne 126 dX12_count_119 (by decide) (fun c25 => ?_) (fun c25 => ?_)
        · replace h := ao_ifF h c25
          refine ao_iconst (v := 3) dX12_count_126 (by decide) ?_
          exact ih.2.2.2.2.2.1 r0 x1 x2 x3 (3 : Int32) (M j22 x3.toNatClampNeg) M _ h
        · replace h := ao_ifT h c25
          refine ao_iconst (v := 2) dX12_count_122 (by decide) ?_
          refine ao_goto 127 dX12_count_123 (by decide) ?_
          exact ih.2.2.2.2.2.1 r0 x1 x2 x3 (2 : Int32) (M j22 x3.toNatClampNeg) M _ h
    · intro r0 x1 x2 x3 s0 s1 M y h
      replace h := ao_ifF h (by decide)
      replace h := ao_ifF h (by decide)
      replace h := ao_ifF h (by decide)
      replace h := ao_ifF h (by decide)
      replace h := ao_ifF h (by decide)
      replace h := ao_ifT h rfl
      refine ao_icmp_ne 133 dX12_count_127 (by decide) (fun c26 => ?_) (fun c26 => ?_)
      · replace h := ao_ifF h c26
        exact ih.2.2.2.2.2.2.1 r0 x1 x2 x3 M _ h
      · replace h := ao_ifT h c26
        obtain ⟨v27, hv27⟩ : ∃ z : Int32, z = x2 + (1 : Int32) := ⟨_, rfl⟩
        replace h := ao_letD h hv27
        refine ao_iinc 2 (v := v27) (lo' := [some (.ref (Γ.2.2.2 + r0)), some (.int x1), some (.int v27), some (.int x3)]) dX12_count_130 rfl (by rw [hv27]; rfl) (Nat.le_of_ble_eq_true rfl) rfl ?_
        exact ih.2.2.2.2.2.2.1 r0 x1 v27 x3 M _ h
    · intro r0 x1 x2 x3 M y h
      replace h := ao_ifF h (by decide)
      replace h := ao_ifF h (by decide)
      replace h := ao_ifF h (by decide)
      replace h := ao_ifF h (by decide)
      replace h := ao_ifF h (by decide)
      replace h := ao_ifF h (by decide)
      replace h := ao_ifT h rfl
      obtain ⟨v28, hv28⟩ : ∃ z : Int32, z = x3 + (1 : Int32) := ⟨_, rfl⟩
      replace h := ao_letD h hv28
      refine ao_iinc 3 (v := v28) (lo' := [some (.ref (Γ.2.2.2 + r0)), some (.int x1), some (.int x2), some (.int v28)]) dX12_count_133 rfl (by rw [hv28]; rfl) (Nat.le_of_ble_eq_true rfl) rfl ?_
      refine ao_goto 104 dX12_count_136 (by decide) ?_
      exact ih.2.2.2.2.1 r0 x1 x2 v28 M _ h
    · intro r0 x1 x2 x3 M y h
      replace h := ao_ifF h (by decide)
      replace h := ao_ifF h (by decide)
      replace h := ao_ifF h (by decide)
      replace h := ao_ifF h (by decide)
      replace h := ao_ifF h (by decide)
      replace h := ao_ifF h (by decide)
      replace h := ao_ifF h (by decide)
      replace h := ao_ifT h rfl
      refine ao_iload_n 3 dX12_count_143 rfl rfl ?_
      refine ao_bipush (v := 26) dX12_count_144 (by decide) ?_
      refine ao_icmp_ge 167 dX12_count_146 (by decide) (fun c29 => ?_) (fun c29 => ?_)
      · replace h := ao_ifT h c29
        refine ao_iload_n 2 dX12_count_167 rfl rfl ?_
        cases h
        exact ao_ireturn dX12_count_168 rfl rfl ⟨rfl, rfl⟩
      · replace h := ao_ifF h c29
        refine ao_aload_n 0 dX12_count_149 rfl rfl ?_
        obtain ⟨hk30, h⟩ := ao_some h
        obtain ⟨j31, hj31, h⟩ := ao_bind h
        refine an_getR r0 12 19 (q := (RX12, TX12, 83)) dX12_count_150 rfl hk30 (Nat.le_of_ble_eq_true rfl) rfl lf_X12_177 hj31 ?_
        refine ao_iload_n 3 dX12_count_153 rfl rfl ?_
        obtain ⟨hk32, h⟩ := ao_some h
        obtain ⟨hb33, h⟩ := ao_some h
        refine an_iaload j31 dX12_count_154 hk32 hb33 ?_
        refine ao_if_lt 161 dX12_count_155 (by decide) (fun c34 => ?_) (fun c34 => ?_)
        · replace h := ao_ifT h c34
          exact ih.2.2.2.2.2.2.2.2 r0 x1 x2 x3 M _ h
        · replace h := ao_ifF h c34
          obtain ⟨v35, hv35⟩ : ∃ z : Int32, z = x2 + (1 : Int32) := ⟨_, rfl⟩
          replace h := ao_letD h hv35
          refine ao_iinc 2 (v := v35) (lo' := [some (.ref (Γ.2.2.2 + r0)), some (.int x1), some (.int v35), some (.int x3)]) dX12_count_158 rfl (by rw [hv35]; rfl) (Nat.le_of_ble_eq_true rfl) rfl ?_
          exact ih.2.2.2.2.2.2.2.2 r0 x1 v35 x3 M _ h
    · intro r0 x1 x2 x3 M y h
      replace h := ao_ifF h (by decide)
      replace h := ao_ifF h (by decide)
      replace h := ao_ifF h (by decide)
      replace h := ao_ifF h (by decide)
      replace h := ao_ifF h (by decide)
      replace h := ao_ifF h (by decide)
      replace h := ao_ifF h (by decide)
      replace h := ao_ifF h (by decide)
      replace h := ao_ifT h rfl
      obtain ⟨v36, hv36⟩ : ∃ z : Int32, z = x3 + (1 : Int32) := ⟨_, rfl⟩
      replace h := ao_letD h hv36
      refine ao_iinc 3 (v := v36) (lo' := [some (.ref (Γ.2.2.2 + r0)), some (.int x1), some (.int x2), some (.int v36)]) dX12_count_161 rfl (by rw [hv36]; rfl) (Nat.le_of_ble_eq_true rfl) rfl ?_
      refine ao_goto 143 dX12_count_164 (by decide) ?_
      exact ih.2.2.2.2.2.2.2.1 r0 x1 x2 v36 M _ h
set_option maxRecDepth 100000 in
set_option maxHeartbeats 4000000 in
theorem aX12_count {Γ : ao_C} (d : Nat) (hd : 1 ≤ d) (n : Nat) (r0 : Nat) (x1 : Int32) (M : ao_M) (ρ : ao_H) {y : Int32 × ao_M} (h : gX12_count n r0 x1 M ρ = some y) : ao_A Γ uX12_count d 0 0 [.ref (Γ.2.2.2 + r0), .int x1] (M, ρ) (ao_PI ρ y) := by
  refine ao_of (by decide) (ao_cat1 (Nat.le_of_ble_eq_true rfl)) (Nat.le_of_ble_eq_true rfl) ?_
  show ao_W Γ uX12_count (ao_rm d 0 0) (ao_Q Γ (ao_PI ρ y) 0 0) 0 0 0 [some (.ref (Γ.2.2.2 + r0)), some (.int x1), none, none] [] (M, ρ)
  exact (wX12_count d hd n).1 r0 x1 M y h

abbrev uJ6_bitCount_0f7a4 : ao_Mi := (yJ6_bitCount_0f7a4, cJ6_bitCount_0f7a4, 1, (some .int), [])
def gJ6_bitCount_0f7a4 (x0 : Int32) (M : ao_M) (ρ : ao_H) : Option (Int32 × ao_M) :=
  ao_let (x0 - (((x0.toUInt32 >>> ((1 : Int32).toUInt32 &&& Int32.toUInt32 31)).toInt32) &&& (1431655765 : Int32))) fun v1 =>
  ao_let ((v1 &&& (858993459 : Int32)) + (((v1.toUInt32 >>> ((2 : Int32).toUInt32 &&& Int32.toUInt32 31)).toInt32) &&& (858993459 : Int32))) fun v2 =>
  ao_let ((v2 + ((v2.toUInt32 >>> ((4 : Int32).toUInt32 &&& Int32.toUInt32 31)).toInt32)) &&& (252645135 : Int32)) fun v3 =>
  ao_let (v3 + ((v3.toUInt32 >>> ((8 : Int32).toUInt32 &&& Int32.toUInt32 31)).toInt32)) fun v4 =>
  ao_let (v4 + ((v4.toUInt32 >>> ((16 : Int32).toUInt32 &&& Int32.toUInt32 31)).toInt32)) fun v5 =>
  some ((v5 &&& (63 : Int32)), M)
set_option maxRecDepth 100000 in
set_option maxHeartbeats 4000000 in
theorem aJ6_bitCount_0f7a4 {Γ : ao_C} (d : Nat) (hd : 0 ≤ d) (x0 : Int32) (M : ao_M) (ρ : ao_H) {y : Int32 × ao_M} (h : gJ6_bitCount_0f7a4 x0 M ρ = some y) : ao_A Γ uJ6_bitCount_0f7a4 d 0 0 [.int x0] (M, ρ) (ao_PI ρ y) := by
  refine ao_of (by decide) (ao_cat1 (Nat.le_of_ble_eq_true rfl)) (Nat.le_of_ble_eq_true rfl) ?_
  show ao_W Γ uJ6_bitCount_0f7a4 (ao_rm d 0 0) (ao_Q Γ (ao_PI ρ y) 0 0) 0 0 0 [some (.int x0)] [] (M, ρ)
  unfold gJ6_bitCount_0f7a4 at h
  refine ao_iload_n 0 dJ6_bitCount_0f7a4_0 rfl rfl ?_
  refine ao_iload_n 0 dJ6_bitCount_0f7a4_1 rfl rfl ?_
  refine ao_iconst (v := 1) dJ6_bitCount_0f7a4_2 (by decide) ?_
  refine ao_iushr dJ6_bitCount_0f7a4_3 ?_
  refine ao_ldc_w (v := 1431655765) dJ6_bitCount_0f7a4_4 lk_J6_265 ?_
  refine ao_iand dJ6_bitCount_0f7a4_7 ?_
  refine ao_isub dJ6_bitCount_0f7a4_8 ?_
  refine an_topi (fun v1 hv1 => ?_)
  replace h := ao_letD h hv1
  refine ao_istore_n 0 (lo' := [some (.int v1)]) dJ6_bitCount_0f7a4_9 rfl (Nat.le_of_ble_eq_true rfl) rfl ?_
  refine ao_iload_n 0 dJ6_bitCount_0f7a4_10 rfl rfl ?_
  refine ao_ldc_w (v := 858993459) dJ6_bitCount_0f7a4_11 lk_J6_266 ?_
  refine ao_iand dJ6_bitCount_0f7a4_14 ?_
  refine ao_iload_n 0 dJ6_bitCount_0f7a4_15 rfl rfl ?_
  refine ao_iconst (v := 2) dJ6_bitCount_0f7a4_16 (by decide) ?_
  refine ao_iushr dJ6_bitCount_0f7a4_17 ?_
  refine ao_ldc_w (v := 858993459) dJ6_bitCount_0f7a4_18 lk_J6_266 ?_
  refine ao_iand dJ6_bitCount_0f7a4_21 ?_
  refine ao_iadd dJ6_bitCount_0f7a4_22 ?_
  refine an_topi (fun v2 hv2 => ?_)
  replace h := ao_letD h hv2
  refine ao_istore_n 0 (lo' := [some (.int v2)]) dJ6_bitCount_0f7a4_23 rfl (Nat.le_of_ble_eq_true rfl) rfl ?_
  refine ao_iload_n 0 dJ6_bitCount_0f7a4_24 rfl rfl ?_
  refine ao_iload_n 0 dJ6_bitCount_0f7a4_25 rfl rfl ?_
  refine ao_iconst (v := 4) dJ6_bitCount_0f7a4_26 (by decide) ?_
  refine ao_iushr dJ6_bitCount_0f7a4_27 ?_
  refine ao_iadd dJ6_bitCount_0f7a4_28 ?_
  refine ao_ldc_w (v := 252645135) dJ6_bitCount_0f7a4_29 lk_J6_267 ?_
  refine ao_iand dJ6_bitCount_0f7a4_32 ?_
  refine an_topi (fun v3 hv3 => ?_)
  replace h := ao_letD h hv3
  refine ao_istore_n 0 (lo' := [some (.int v3)]) dJ6_bitCount_0f7a4_33 rfl (Nat.le_of_ble_eq_true rfl) rfl ?_
  refine ao_iload_n 0 dJ6_bitCount_0f7a4_34 rfl rfl ?_
  refine ao_iload_n 0 dJ6_bitCount_0f7a4_35 rfl rfl ?_
  refine ao_bipush (v := 8) dJ6_bitCount_0f7a4_36 (by decide) ?_
  refine ao_iushr dJ6_bitCount_0f7a4_38 ?_
  refine ao_iadd dJ6_bitCount_0f7a4_39 ?_
  refine an_topi (fun v4 hv4 => ?_)
  replace h := ao_letD h hv4
  refine ao_istore_n 0 (lo' := [some (.int v4)]) dJ6_bitCount_0f7a4_40 rfl (Nat.le_of_ble_eq_true rfl) rfl ?_
  refine ao_iload_n 0 dJ6_bitCount_0f7a4_41 rfl rfl ?_
  refine ao_iload_n 0 dJ6_bitCount_0f7a4_42 rfl rfl ?_
  refine ao_bipush (v := 16) dJ6_bitCount_0f7a4_43 (by decide) ?_
  refine ao_iushr dJ6_bitCount_0f7a4_45 ?_
  refine ao_iadd dJ6_bitCount_0f7a4_46 ?_
  refine an_topi (fun v5 hv5 => ?_)
  replace h := ao_letD h hv5
  refine ao_istore_n 0 (lo' := [some (.int v5)]) dJ6_bitCount_0f7a4_47 rfl (Nat.le_of_ble_eq_true rfl) rfl ?_
  refine ao_iload_n 0 dJ6_bitCount_0f7a4_48 rfl rfl ?_
  refine ao_bipush (v := 63) dJ6_bitCount_0f7a4_49 (by decide) ?_
  refine ao_iand dJ6_bitCount_0f7a4_51 ?_
  cases h
  exact ao_ireturn dJ6_bitCount_0f7a4_52 rfl rfl ⟨rfl, rfl⟩

abbrev uJ2_length_9d52b : ao_Mi := (yJ2_length_9d52b, cJ2_length_9d52b, 1, (some .int), [])
def gJ2_length_9d52b (r0 : Nat) (M : ao_M) (ρ : ao_H) : Option (Int32 × ao_M) :=
  if ρ.2.1 r0 = 1 then
  some (((nI (ρ.2.2.1 r0)) >>> ((1 : Int32) &&& 31)), M)
  else none
set_option maxRecDepth 100000 in
set_option maxHeartbeats 4000000 in
theorem aJ2_length_9d52b {Γ : ao_C} (d : Nat) (hd : 0 ≤ d) (r0 : Nat) (M : ao_M) (ρ : ao_H) {y : Int32 × ao_M} (h : gJ2_length_9d52b r0 M ρ = some y) : ao_A Γ uJ2_length_9d52b d 0 0 [.ref (Γ.2.2.2 + r0)] (M, ρ) (ao_PI ρ y) := by
  refine ao_of (by decide) (ao_cat1 (Nat.le_of_ble_eq_true rfl)) (Nat.le_of_ble_eq_true rfl) ?_
  show ao_W Γ uJ2_length_9d52b (ao_rm d 0 0) (ao_Q Γ (ao_PI ρ y) 0 0) 0 0 0 [some (.ref (Γ.2.2.2 + r0))] [] (M, ρ)
  unfold gJ2_length_9d52b at h
  refine ao_aload_n 0 dJ2_length_9d52b_0 rfl rfl ?_
  obtain ⟨hk1, h⟩ := ao_some h
  refine an_alen r0 1 dJ2_length_9d52b_1 hk1 (by decide) ?_
  refine ao_iconst (v := 1) dJ2_length_9d52b_2 (by decide) ?_
  refine ao_ishr dJ2_length_9d52b_3 ?_
  cases h
  exact ao_ireturn dJ2_length_9d52b_4 rfl rfl ⟨rfl, rfl⟩

abbrev uJ7_fill_53178 : ao_Mi := (yJ7_fill_53178, cJ7_fill_53178, 4, none, [])
def fJ7_fill_53178 : Nat → Nat → Nat → Int32 → Int32 → Int32 →  ao_M → ao_H → Option (ao_M)
  | 0, _, _, _, _, _, _, _ => none
  | n + 1, pc, r0, x1, x2, x3, M, ρ =>
    if pc = 0 then
      if ρ.2.1 r0 = 0 then
      ao_let (nI (ρ.2.2.1 r0)) fun v2 =>
      fJ7_fill_53178 n 5 r0 x1 (0 : Int32) v2 M ρ
      else none
    else if pc = 5 then
      if x3 ≤ x2 then
        some M
      else
        if ρ.2.1 r0 = 0 then
        if ¬ (x2 < 0 ∨ ρ.2.2.1 r0 ≤ x2.toNatClampNeg) then
        ao_let (ao_u M r0 x2.toNatClampNeg x1) fun M6 =>
        ao_let (x2 + (1 : Int32)) fun v7 =>
        fJ7_fill_53178 n 5 r0 x1 v7 x3 M6 ρ
        else none
        else none
    else none
def gJ7_fill_53178 (n : Nat) (r0 : Nat) (x1 : Int32) (M : ao_M) (ρ : ao_H) : Option (ao_M) := fJ7_fill_53178 n 0 r0 x1 0 0 M ρ
set_option maxRecDepth 100000 in
set_option maxHeartbeats 4000000 in
theorem wJ7_fill_53178 {Γ : ao_C} {ρ : ao_H} (d : Nat) (hd : 0 ≤ d) : ∀ n : Nat, (∀ (r0 : Nat) (x1 : Int32) (M : ao_M) (y : ao_M), fJ7_fill_53178 n 0 r0 x1 0 0 M ρ = some y → ao_W Γ uJ7_fill_53178 (ao_rm d 0 0) (ao_Q Γ (ao_PV ρ y) 0 0) 0 0 0 [some (.ref (Γ.2.2.2 + r0)), some (.int x1), none, none] [] (M, ρ)) ∧ (∀ (r0 : Nat) (x1 : Int32) (x2 : Int32) (x3 : Int32) (M : ao_M) (y : ao_M), fJ7_fill_53178 n 5 r0 x1 x2 x3 M ρ = some y → ao_W Γ uJ7_fill_53178 (ao_rm d 0 0) (ao_Q Γ (ao_PV ρ y) 0 0) 0 0 5 [some (.ref (Γ.2.2.2 + r0)), some (.int x1), some (.int x2), some (.int x3)] [] (M, ρ)) := by
  intro n
  induction n with
  | zero => exact ⟨fun _ _ _ _ h => ao_no h, fun _ _ _ _ _ _ h => ao_no h⟩
  | succ n ih =>
    refine ⟨?_, ?_⟩
    · intro r0 x1 M y h
      replace h := ao_ifT h rfl
      refine ao_iconst (v := 0) dJ7_fill_53178_0 (by decide) ?_
      refine ao_istore_n 2 (lo' := [some (.ref (Γ.2.2.2 + r0)), some (.int x1), some (.int (0 : Int32)), none]) dJ7_fill_53178_1 rfl (Nat.le_of_ble_eq_true rfl) rfl ?_
      refine ao_aload_n 0 dJ7_fill_53178_2 rfl rfl ?_
      obtain ⟨hk1, h⟩ := ao_some h
      refine an_alen r0 0 dJ7_fill_53178_3 hk1 (by decide) ?_
      refine an_topi (fun v2 hv2 => ?_)
      replace h := ao_letD h hv2
      refine ao_istore_n 3 (lo' := [some (.ref (Γ.2.2.2 + r0)), some (.int x1), some (.int (0 : Int32)), some (.int v2)]) dJ7_fill_53178_4 rfl (Nat.le_of_ble_eq_true rfl) rfl ?_
      exact ih.2 r0 x1 (0 : Int32) v2 M _ h
    · intro r0 x1 x2 x3 M y h
      replace h := ao_ifF h (by decide)
      replace h := ao_ifT h rfl
      refine ao_iload_n 2 dJ7_fill_53178_5 rfl rfl ?_
      refine ao_iload_n 3 dJ7_fill_53178_6 rfl rfl ?_
      refine ao_icmp_ge 20 dJ7_fill_53178_7 (by decide) (fun c3 => ?_) (fun c3 => ?_)
      · replace h := ao_ifT h c3
        cases h
        exact ao_return dJ7_fill_53178_20 rfl ⟨rfl, rfl⟩
      · replace h := ao_ifF h c3
        refine ao_aload_n 0 dJ7_fill_53178_10 rfl rfl ?_
        refine ao_iload_n 2 dJ7_fill_53178_11 rfl rfl ?_
        refine ao_iload_n 1 dJ7_fill_53178_12 rfl rfl ?_
        obtain ⟨hk4, h⟩ := ao_some h
        obtain ⟨hb5, h⟩ := ao_some h
        refine an_iastore r0 dJ7_fill_53178_13 hk4 hb5 (fun M6 hM6 => ?_)
        replace h := ao_letD h hM6
        obtain ⟨v7, hv7⟩ : ∃ z : Int32, z = x2 + (1 : Int32) := ⟨_, rfl⟩
        replace h := ao_letD h hv7
        refine ao_iinc 2 (v := v7) (lo' := [some (.ref (Γ.2.2.2 + r0)), some (.int x1), some (.int v7), some (.int x3)]) dJ7_fill_53178_14 rfl (by rw [hv7]; rfl) (Nat.le_of_ble_eq_true rfl) rfl ?_
        refine ao_goto 5 dJ7_fill_53178_17 (by decide) ?_
        exact ih.2 r0 x1 v7 x3 M6 _ h
set_option maxRecDepth 100000 in
set_option maxHeartbeats 4000000 in
theorem aJ7_fill_53178 {Γ : ao_C} (d : Nat) (hd : 0 ≤ d) (n : Nat) (r0 : Nat) (x1 : Int32) (M : ao_M) (ρ : ao_H) {y : ao_M} (h : gJ7_fill_53178 n r0 x1 M ρ = some y) : ao_A Γ uJ7_fill_53178 d 0 0 [.ref (Γ.2.2.2 + r0), .int x1] (M, ρ) (ao_PV ρ y) := by
  refine ao_of (by decide) (ao_cat1 (Nat.le_of_ble_eq_true rfl)) (Nat.le_of_ble_eq_true rfl) ?_
  show ao_W Γ uJ7_fill_53178 (ao_rm d 0 0) (ao_Q Γ (ao_PV ρ y) 0 0) 0 0 0 [some (.ref (Γ.2.2.2 + r0)), some (.int x1), none, none] [] (M, ρ)
  exact (wJ7_fill_53178 d hd n).1 r0 x1 M y h
