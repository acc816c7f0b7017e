abbrev uX5_isTakenByOther : ao_Mi := (yX5_isTakenByOther, cX5_isTakenByOther, 3, (some .boolean), [])
def gX5_isTakenByOther (r0 : Nat) (x1 : Int32) (x2 : Int32) (M : ao_M) (ρ : ao_H) : Option (Int32 × ao_M) :=
  if x1 < 0 then
    some ((0 : Int32), M)
  else
    if (26 : Int32) ≤ x1 then
      some ((0 : Int32), M)
    else
      if ρ.2.1 r0 = 15 then
      (ρ.1 r0 2).bind fun j4 =>
      if ρ.2.1 j4 = 0 then
      if ¬ (x1 < 0 ∨ ρ.2.2.1 j4 ≤ x1.toNatClampNeg) then
      if (M j4 x1.toNatClampNeg) = (-1 : Int32) then
        some ((0 : Int32), M)
      else
        if (M j4 x1.toNatClampNeg) = x2 then
          some ((0 : Int32), M)
        else
          some ((1 : Int32), M)
      else none
      else none
      else none
set_option maxRecDepth 100000 in
set_option maxHeartbeats 4000000 in
theorem aX5_isTakenByOther {Γ : ao_C} (d : Nat) (hd : 0 ≤ d) (r0 : Nat) (x1 : Int32) (x2 : Int32) (M : ao_M) (ρ : ao_H) {y : Int32 × ao_M} (h : gX5_isTakenByOther r0 x1 x2 M ρ = some y) : ao_A Γ uX5_isTakenByOther d 0 0 [.ref (Γ.2.2.2 + r0), .int x1, .int x2] (M, ρ) (ao_PI ρ y) := by
  refine ao_of (by decide) (ao_cat1 (Nat.le_of_ble_eq_true rfl)) (Nat.le_of_ble_eq_true rfl) ?_
  show ao_W Γ uX5_isTakenByOther (ao_rm d 0 0) (ao_Q Γ (ao_PI ρ y) 0 0) 0 0 0 [some (.ref (Γ.2.2.2 + r0)), some (.int x1), some (.int x2)] [] (M, ρ)
  unfold gX5_isTakenByOther at h
  refine ao_iload_n 1 dX5_isTakenByOther_0 rfl rfl ?_
  refine ao_if_lt 34 dX5_isTakenByOther_1 (by decide) (fun c1 => ?_) (fun c1 => ?_)
  · replace h := ao_ifT h c1
    refine ao_iconst (v := 0) dX5_isTakenByOther_34 (by decide) ?_
    cases h
    exact ao_ireturn dX5_isTakenByOther_35 rfl rfl ⟨rfl, rfl⟩
  · replace h := ao_ifF h c1
    refine ao_iload_n 1 dX5_isTakenByOther_4 rfl rfl ?_
    refine ao_bipush (v := 26) dX5_isTakenByOther_5 (by decide) ?_
    refine ao_icmp_ge 34 dX5_isTakenByOther_7 (by decide) (fun c2 => ?_) (fun c2 => ?_)
    · replace h := ao_ifT h c2
      refine ao_iconst (v := 0) dX5_isTakenByOther_34 (by decide) ?_
      cases h
      exact ao_ireturn dX5_isTakenByOther_35 rfl rfl ⟨rfl, rfl⟩
    · replace h := ao_ifF h c2
      refine ao_aload_n 0 dX5_isTakenByOther_10 rfl rfl ?_
      obtain ⟨hk3, h⟩ := ao_some h
      obtain ⟨j4, hj4, h⟩ := ao_bind h
      refine an_getR r0 5 2 (q := (RX5, TX5, 11)) dX5_isTakenByOther_11 rfl hk3 (Nat.le_of_ble_eq_true rfl) rfl lf_X5_18 hj4 ?_
      refine ao_iload_n 1 dX5_isTakenByOther_14 rfl rfl ?_
      obtain ⟨hk5, h⟩ := ao_some h
      obtain ⟨hb6, h⟩ := ao_some h
      refine an_iaload j4 dX5_isTakenByOther_15 hk5 hb6 ?_
      refine ao_iconst (v := (-1)) dX5_isTakenByOther_16 (by decide) ?_
      refine ao_icmp_eq 34 dX5_isTakenByOther_17 (by decide) (fun c7 => ?_) (fun c7 => ?_)
      · replace h := ao_ifT h c7
        refine ao_iconst (v := 0) dX5_isTakenByOther_34 (by decide) ?_
        cases h
        exact ao_ireturn dX5_isTakenByOther_35 rfl rfl ⟨rfl, rfl⟩
      · replace h := ao_ifF h c7
        refine ao_aload_n 0 dX5_isTakenByOther_20 rfl rfl ?_
        refine an_getR r0 5 2 (q := (RX5, TX5, 11)) dX5_isTakenByOther_21 rfl hk3 (Nat.le_of_ble_eq_true rfl) rfl lf_X5_18 hj4 ?_
        refine ao_iload_n 1 dX5_isTakenByOther_24 rfl rfl ?_
        refine an_iaload j4 dX5_isTakenByOther_25 hk5 hb6 ?_
        refine ao_iload_n 2 dX5_isTakenByOther_26 rfl rfl ?_
        refine ao_icmp_eq 34 dX5_isTakenByOther_27 (by decide) (fun c8 => ?_) (fun c8 => ?_)
        · replace h := ao_ifT h c8
          refine ao_iconst (v := 0) dX5_isTakenByOther_34 (by decide) ?_
          cases h
          exact ao_ireturn dX5_isTakenByOther_35 rfl rfl ⟨rfl, rfl⟩
        · replace h := ao_ifF h c8
          refine ao_iconst (v := 1) dX5_isTakenByOther_30 (by decide) ?_
          refine ao_goto 35 dX5_isTakenByOther_31 (by decide) ?_
          cases h
          exact ao_ireturn dX5_isTakenByOther_35 rfl rfl ⟨rfl, rfl⟩

abbrev uX5_isTakenBy : ao_Mi := (yX5_isTakenBy, cX5_isTakenBy, 3, (some .boolean), [])
def gX5_isTakenBy (r0 : Nat) (x1 : Int32) (x2 : Int32) (M : ao_M) (ρ : ao_H) : Option (Int32 × ao_M) :=
  if x1 < 0 then
    some ((0 : Int32), M)
  else
    if (26 : Int32) ≤ x1 then
      some ((0 : Int32), M)
    else
      if ρ.2.1 r0 = 15 then
      (ρ.1 r0 2).bind fun j4 =>
      if ρ.2.1 j4 = 0 then
      if ¬ (x1 < 0 ∨ ρ.2.2.1 j4 ≤ x1.toNatClampNeg) then
      if (M j4 x1.toNatClampNeg) = x2 then
        some ((1 : Int32), M)
      else
        some ((0 : Int32), M)
      else none
      else none
      else none
set_option maxRecDepth 100000 in
set_option maxHeartbeats 4000000 in
theorem aX5_isTakenBy {Γ : ao_C} (d : Nat) (hd : 0 ≤ d) (r0 : Nat) (x1 : Int32) (x2 : Int32) (M : ao_M) (ρ : ao_H) {y : Int32 × ao_M} (h : gX5_isTakenBy r0 x1 x2 M ρ = some y) : ao_A Γ uX5_isTakenBy d 0 0 [.ref (Γ.2.2.2 + r0), .int x1, .int x2] (M, ρ) (ao_PI ρ y) := by
  refine ao_of (by decide) (ao_cat1 (Nat.le_of_ble_eq_true rfl)) (Nat.le_of_ble_eq_true rfl) ?_
  show ao_W Γ uX5_isTakenBy (ao_rm d 0 0) (ao_Q Γ (ao_PI ρ y) 0 0) 0 0 0 [some (.ref (Γ.2.2.2 + r0)), some (.int x1), some (.int x2)] [] (M, ρ)
  unfold gX5_isTakenBy at h
  refine ao_iload_n 1 dX5_isTakenBy_0 rfl rfl ?_
  refine ao_if_lt 24 dX5_isTakenBy_1 (by decide) (fun c1 => ?_) (fun c1 => ?_)
  · replace h := ao_ifT h c1
    refine ao_iconst (v := 0) dX5_isTakenBy_24 (by decide) ?_
    cases h
    exact ao_ireturn dX5_isTakenBy_25 rfl rfl ⟨rfl, rfl⟩
  · replace h := ao_ifF h c1
    refine ao_iload_n 1 dX5_isTakenBy_4 rfl rfl ?_
    refine ao_bipush (v := 26) dX5_isTakenBy_5 (by decide) ?_
    refine ao_icmp_ge 24 dX5_isTakenBy_7 (by decide) (fun c2 => ?_) (fun c2 => ?_)
    · replace h := ao_ifT h c2
      refine ao_iconst (v := 0) dX5_isTakenBy_24 (by decide) ?_
      cases h
      exact ao_ireturn dX5_isTakenBy_25 rfl rfl ⟨rfl, rfl⟩
    · replace h := ao_ifF h c2
      refine ao_aload_n 0 dX5_isTakenBy_10 rfl rfl ?_
      obtain ⟨hk3, h⟩ := ao_some h
      obtain ⟨j4, hj4, h⟩ := ao_bind h
      refine an_getR r0 5 2 (q := (RX5, TX5, 11)) dX5_isTakenBy_11 rfl hk3 (Nat.le_of_ble_eq_true rfl) rfl lf_X5_18 hj4 ?_
      refine ao_iload_n 1 dX5_isTakenBy_14 rfl rfl ?_
      obtain ⟨hk5, h⟩ := ao_some h
      obtain ⟨hb6, h⟩ := ao_some h
      refine an_iaload j4 dX5_isTakenBy_15 hk5 hb6 ?_
      refine ao_iload_n 2 dX5_isTakenBy_16 rfl rfl ?_
      refine ao_icmp_ne 24 dX5_isTakenBy_17 (by decide) (fun c7 => ?_) (fun c7 => ?_)
      · replace h := ao_ifF h c7
        refine ao_iconst (v := 0) dX5_isTakenBy_24 (by decide) ?_
        cases h
        exact ao_ireturn dX5_isTakenBy_25 rfl rfl ⟨rfl, rfl⟩
      · replace h := ao_ifT h c7
        refine ao_iconst (v := 1) dX5_isTakenBy_20 (by decide) ?_
        refine ao_goto 25 dX5_isTakenBy_21 (by decide) ?_
        cases h
        exact ao_ireturn dX5_isTakenBy_25 rfl rfl ⟨rfl, rfl⟩

abbrev uX5_howManyTaken : ao_Mi := (yX5_howManyTaken, cX5_howManyTaken, 3, (some .int), [])
def fX5_howManyTaken : Nat → Nat → Nat → Int32 → Int32 →  ao_M → ao_H → Option (Int32 × ao_M)
  | 0, _, _, _, _, _, _ => none
  | n + 1, pc, r0, x1, x2, M, ρ =>
    if pc = 0 then
      fX5_howManyTaken n 4 r0 (0 : Int32) (0 : Int32) M ρ
    else if pc = 4 then
      if (26 : Int32) ≤ x2 then
        some (x1, M)
      else
        if ρ.2.1 r0 = 15 then
        (ρ.1 r0 2).bind fun j3 =>
        if ρ.2.1 j3 = 0 then
        if ¬ (x2 < 0 ∨ ρ.2.2.1 j3 ≤ x2.toNatClampNeg) then
        if (M j3 x2.toNatClampNeg) = (-1 : Int32) then
          fX5_howManyTaken n 23 r0 x1 x2 M ρ
        else
          ao_let (x1 + (1 : Int32)) fun v7 =>
          fX5_howManyTaken n 23 r0 v7 x2 M ρ
        else none
        else none
        else none
    else if pc = 23 then
      ao_let (x2 + (1 : Int32)) fun v8 =>
      fX5_howManyTaken n 4 r0 x1 v8 M ρ
    else none
def gX5_howManyTaken (n : Nat) (r0 : Nat) (M : ao_M) (ρ : ao_H) : Option (Int32 × ao_M) := fX5_howManyTaken n 0 r0 0 0 M ρ
set_option maxRecDepth 100000 in
set_option maxHeartbeats 4000000 in
theorem wX5_howManyTaken {Γ : ao_C} {ρ : ao_H} (d : Nat) (hd : 0 ≤ d) : ∀ n : Nat, (∀ (r0 : Nat) (M : ao_M) (y : Int32 × ao_M), fX5_howManyTaken n 0 r0 0 0 M ρ = some y → ao_W Γ uX5_howManyTaken (ao_rm d 0 0) (ao_Q Γ (ao_PI ρ y) 0 0) 0 0 0 [some (.ref (Γ.2.2.2 + r0)), none, none] [] (M, ρ)) ∧ (∀ (r0 : Nat) (x1 : Int32) (x2 : Int32) (M : ao_M) (y : Int32 × ao_M), fX5_howManyTaken n 4 r0 x1 x2 M ρ = some y → ao_W Γ uX5_howManyTaken (ao_rm d 0 0) (ao_Q Γ (ao_PI ρ y) 0 0) 0 0 4 [some (.ref (Γ.2.2.2 + r0)), some (.int x1), some (.int x2)] [] (M, ρ)) ∧ (∀ (r0 : Nat) (x1 : Int32) (x2 : Int32) (M : ao_M) (y : Int32 × ao_M), fX5_howManyTaken n 23 r0 x1 x2 M ρ = some y → ao_W Γ uX5_howManyTaken (ao_rm d 0 0) (ao_Q Γ (ao_PI ρ y) 0 0) 0 0 23 [some (.ref (Γ.2.2.2 + r0)), some (.int x1), some (.int x2)] [] (M, ρ)) := by
  intro n
  induction n with
  | zero => exact ⟨fun _ _ _ h => ao_no h, fun _ _ _ _ _ h => ao_no h, fun _ _ _ _ _ h => ao_no h⟩
  | succ n ih =>
    refine ⟨?_, ?_, ?_⟩
    · intro r0 M y h
      replace h := ao_ifT h rfl
      refine ao_iconst (v := 0) dX5_howManyTaken_0 (by decide) ?_
      refine ao_istore_n 1 (lo' := [some (.ref (Γ.2.2.2 + r0)), some (.int (0 : Int32)), none]) dX5_howManyTaken_1 rfl (Nat.le_of_ble_eq_true rfl) rfl ?_
      refine ao_iconst (v := 0) dX5_howManyTaken_2 (by decide) ?_
      refine ao_istore_n 2 (lo' := [some (.ref (Γ.2.2.2 + r0)), some (.int (0 : Int32)), some (.int (0 : Int32))]) dX5_howManyTaken_3 rfl (Nat.le_of_ble_eq_true rfl) rfl ?_
      exact ih.2.1 r0 (0 : Int32) (0 : Int32) M _ h
    · intro r0 x1 x2 M y h
      replace h := ao_ifF h (by decide)
      replace h := ao_ifT h rfl
      refine ao_iload_n 2 dX5_howManyTaken_4 rfl rfl ?_
      refine ao_bipush (v := 26) dX5_howManyTaken_5 (by decide) ?_
      refine ao_icmp_ge 29 dX5_howManyTaken_7 (by decide) (fun c1 => ?_) (fun c1 => ?_)
      · replace h := ao_ifT h c1
        refine ao_iload_n 1 dX5_howManyTaken_29 rfl rfl ?_
        cases h
        exact ao_ireturn dX5_howManyTaken_30 rfl rfl ⟨rfl, rfl⟩
      · replace h := ao_ifF h c1
        refine ao_aload_n 0 dX5_howManyTaken_10 rfl rfl ?_
        obtain ⟨hk2, h⟩ := ao_some h
        obtain ⟨j3, hj3, h⟩ := ao_bind h
        refine an_getR r0 5 2 (q := (RX5, TX5, 11)) dX5_howManyTaken_11 rfl hk2 (Nat.le_of_ble_eq_true rfl) rfl lf_X5_18 hj3 ?_
        refine ao_iload_n 2 dX5_howManyTaken_14 rfl rfl ?_
        obtain ⟨hk4, h⟩ := ao_some h
        obtain ⟨hb5, h⟩ := ao_some h
        refine an_iaload j3 dX5_howManyTaken_15 hk4 hb5 ?_
        refine ao_iconst (v := (-1)) dX5_howManyTaken_16 (by decide) ?_
        refine ao_icmp_eq 23 dX5_howManyTaken_17 (by decide) (fun c6 => ?_) (fun c6 => ?_)
        · replace h := ao_ifT h c6
          exact ih.2.2 r0 x1 x2 M _ h
        · replace h := ao_ifF h c6
          obtain ⟨v7, hv7⟩ : ∃ z : Int32, z = x1 + (1 : Int32) := ⟨_, rfl⟩
          replace h := ao_letD h hv7
          refine ao_iinc 1 (v := v7) (lo' := [some (.ref (Γ.2.2.2 + r0)), some (.int v7), some (.int x2)]) dX5_howManyTaken_20 rfl (by rw [hv7]; rfl) (Nat.le_of_ble_eq_true rfl) rfl ?_
          exact ih.2.2 r0 v7 x2 M _ h
    · intro r0 x1 x2 M y h
      replace h := ao_ifF h (by decide)
      replace h := ao_ifF h (by decide)
      replace h := ao_ifT h rfl
      obtain ⟨v8, hv8⟩ : ∃ z : Int32, z = x2 + (1 : Int32) := ⟨_, rfl⟩
      replace h := ao_letD h hv8
      refine ao_iinc 2 (v := v8) (lo' := [some (.ref (Γ.2.2.2 + r0)), some (.int x1), some (.int v8)]) dX5_howManyTaken_23 rfl (by rw [hv8]; rfl) (Nat.le_of_ble_eq_true rfl) rfl ?_
      refine ao_goto 4 dX5_howManyTaken_26 (by decide) ?_
      exact ih.2.1 r0 x1 v8 M _ h
set_option maxRecDepth 100000 in
set_option maxHeartbeats 4000000 in
theorem aX5_howManyTaken {Γ : ao_C} (d : Nat) (hd : 0 ≤ d) (n : Nat) (r0 : Nat) (M : ao_M) (ρ : ao_H) {y : Int32 × ao_M} (h : gX5_howManyTaken n r0 M ρ = some y) : ao_A Γ uX5_howManyTaken d 0 0 [.ref (Γ.2.2.2 + r0)] (M, ρ) (ao_PI ρ y) := by
  refine ao_of (by decide) (ao_cat1 (Nat.le_of_ble_eq_true rfl)) (Nat.le_of_ble_eq_true rfl) ?_
  show ao_W Γ uX5_howManyTaken (ao_rm d 0 0) (ao_Q Γ (ao_PI ρ y) 0 0) 0 0 0 [some (.ref (Γ.2.2.2 + r0)), none, none] [] (M, ρ)
  exact (wX5_howManyTaken d hd n).1 r0 M y h

abbrev uX6_init : ao_Mi := (yX6_init, cX6_init, 1, none, [])
def fX6_init : Nat → Nat → Nat → Nat → Nat →  ao_M → ao_H → Option (ao_S)
  | 0, _, _, _, _, _, _ => none
  | n + 1, pc, r0, q0, q1, M, ρ =>
    if pc = 0 then
      (ρ.2.2.2.1).bind fun n1 =>
      if ¬ (300 : Int32) < 0 ∧ (300 : Int32).toNatClampNeg * 8 ≤ 536870912 then
      fX6_init n 10 r0 n1 r0 (ao_zr M n1) (ao_nw ρ n1 0 (300 : Int32).toNatClampNeg (300 : Int32).toNatClampNeg)
      else none
    else if pc = 10 then
      if ρ.2.1 q1 = 16 then
      fX6_init n 13 r0 0 0 M (ao_r ρ q1 0 (some q0))
      else none
    else if pc = 13 then
      (ρ.2.2.2.1).bind fun n4 =>
      if ¬ (300 : Int32) < 0 ∧ (300 : Int32).toNatClampNeg * 8 ≤ 536870912 then
      fX6_init n 19 r0 n4 r0 (ao_zr M n4) (ao_nw ρ n4 0 (300 : Int32).toNatClampNeg (300 : Int32).toNatClampNeg)
      else none
    else if pc = 19 then
      if ρ.2.1 q1 = 16 then
      fX6_init n 22 r0 0 0 M (ao_r ρ q1 1 (some q0))
      else none
    else if pc = 22 then
      (ρ.2.2.2.1).bind fun n7 =>
      if ¬ (300 : Int32) < 0 ∧ (300 : Int32).toNatClampNeg * 8 ≤ 536870912 then
      fX6_init n 28 r0 n7 r0 (ao_zr M n7) (ao_nw ρ n7 0 (300 : Int32).toNatClampNeg (300 : Int32).toNatClampNeg)
      else none
    else if pc = 28 then
      if ρ.2.1 q1 = 16 then
      fX6_init n 31 r0 0 0 M (ao_r ρ q1 2 (some q0))
      else none
    else if pc = 31 then
      (ρ.2.2.2.1).bind fun n10 =>
      if ¬ (300 : Int32) < 0 ∧ (300 : Int32).toNatClampNeg * 8 ≤ 536870912 then
      fX6_init n 37 r0 n10 r0 (ao_zr M n10) (ao_nw ρ n10 0 (300 : Int32).toNatClampNeg (300 : Int32).toNatClampNeg)
      else none
    else if pc = 37 then
      if ρ.2.1 q1 = 16 then
      fX6_init n 40 r0 0 0 M (ao_r ρ q1 3 (some q0))
      else none
    else if pc = 40 then
      (ρ.2.2.2.1).bind fun n13 =>
      if ¬ (300 : Int32) < 0 ∧ (300 : Int32).toNatClampNeg * 8 ≤ 536870912 then
      fX6_init n 46 r0 n13 r0 (ao_zr M n13) (ao_nw ρ n13 0 (300 : Int32).toNatClampNeg (300 : Int32).toNatClampNeg)
      else none
    else if pc = 46 then
      if ρ.2.1 q1 = 16 then
      fX6_init n 49 r0 0 0 M (ao_r ρ q1 4 (some q0))
      else none
    else if pc = 49 then
      (ρ.2.2.2.1).bind fun n16 =>
      if (¬ (14 : Int32) < 0 ∧ ¬ (26 : Int32) < 0) ∧ (14 : Int32).toNatClampNeg ≤ 10000 ∧ (26 : Int32).toNatClampNeg ≤ 10000 then
      fX6_init n 58 r0 n16 r0 (ao_zq M n16 (14 : Int32).toNatClampNeg) (ao_nq ρ n16 (14 : Int32).toNatClampNeg (26 : Int32).toNatClampNeg)
      else none
    else if pc = 58 then
      if ρ.2.1 q1 = 16 then
      fX6_init n 61 r0 0 0 M (ao_r ρ q1 5 (some q0))
      else none
    else if pc = 61 then
      (ρ.2.2.2.1).bind fun n19 =>
      if (¬ (14 : Int32) < 0 ∧ ¬ (26 : Int32) < 0) ∧ (14 : Int32).toNatClampNeg ≤ 10000 ∧ (26 : Int32).toNatClampNeg ≤ 10000 then
      fX6_init n 70 r0 n19 r0 (ao_zq M n19 (14 : Int32).toNatClampNeg) (ao_nq ρ n19 (14 : Int32).toNatClampNeg (26 : Int32).toNatClampNeg)
      else none
    else if pc = 70 then
      if ρ.2.1 q1 = 16 then
      fX6_init n 73 r0 0 0 M (ao_r ρ q1 6 (some q0))
      else none
    else if pc = 73 then
      (ρ.2.2.2.1).bind fun n22 =>
      if (¬ (14 : Int32) < 0 ∧ ¬ (26 : Int32) < 0) ∧ (14 : Int32).toNatClampNeg ≤ 10000 ∧ (26 : Int32).toNatClampNeg ≤ 10000 then
      fX6_init n 82 r0 n22 r0 (ao_zq M n22 (14 : Int32).toNatClampNeg) (ao_nq ρ n22 (14 : Int32).toNatClampNeg (26 : Int32).toNatClampNeg)
      else none
    else if pc = 82 then
      if ρ.2.1 q1 = 16 then
      fX6_init n 85 r0 0 0 M (ao_r ρ q1 7 (some q0))
      else none
    else if pc = 85 then
      (ρ.2.2.2.1).bind fun n25 =>
      if (¬ (14 : Int32) < 0 ∧ ¬ (26 : Int32) < 0) ∧ (14 : Int32).toNatClampNeg ≤ 10000 ∧ (26 : Int32).toNatClampNeg ≤ 10000 then
      fX6_init n 94 r0 n25 r0 (ao_zq M n25 (14 : Int32).toNatClampNeg) (ao_nq ρ n25 (14 : Int32).toNatClampNeg (26 : Int32).toNatClampNeg)
      else none
    else if pc = 94 then
      if ρ.2.1 q1 = 16 then
      fX6_init n 97 r0 0 0 M (ao_r ρ q1 8 (some q0))
      else none
    else if pc = 97 then
      some (M, ρ)
    else none
def gX6_init (n : Nat) (r0 : Nat) (M : ao_M) (ρ : ao_H) : Option (ao_S) := fX6_init n 0 r0 0 0 M ρ
set_option maxRecDepth 100000 in
set_option maxHeartbeats 4000000 in
theorem mX6_init : ∀ n : Nat, (∀ (r0 : Nat) (M : ao_M) (ρ : ao_H) (y : ao_S), fX6_init n 0 r0 0 0 M ρ = some y → ao_le ρ y.2) ∧ (∀ (r0 : Nat) (q0 : Nat) (q1 : Nat) (M : ao_M) (ρ : ao_H) (y : ao_S), fX6_init n 10 r0 q0 q1 M ρ = some y → ao_le ρ y.2) ∧ (∀ (r0 : Nat) (M : ao_M) (ρ : ao_H) (y : ao_S), fX6_init n 13 r0 0 0 M ρ = some y → ao_le ρ y.2) ∧ (∀ (r0 : Nat) (q0 : Nat) (q1 : Nat) (M : ao_M) (ρ : ao_H) (y : ao_S), fX6_init n 19 r0 q0 q1 M ρ = some y → ao_le ρ y.2) ∧ (∀ (r0 : Nat) (M : ao_M) (ρ : ao_H) (y : ao_S), fX6_init n 22 r0 0 0 M ρ = some y → ao_le ρ y.2) ∧ (∀ (r0 : Nat) (q0 : Nat) (q1 : Nat) (M : ao_M) (ρ : ao_H) (y : ao_S), fX6_init n 28 r0 q0 q1 M ρ = some y → ao_le ρ y.2) ∧ (∀ (r0 : Nat) (M : ao_M) (ρ : ao_H) (y : ao_S), fX6_init n 31 r0 0 0 M ρ = some y → ao_le ρ y.2) ∧ (∀ (r0 : Nat) (q0 : Nat) (q1 : Nat) (M : ao_M) (ρ : ao_H) (y : ao_S), fX6_init n 37 r0 q0 q1 M ρ = some y → ao_le ρ y.2) ∧ (∀ (r0 : Nat) (M : ao_M) (ρ : ao_H) (y : ao_S), fX6_init n 40 r0 0 0 M ρ = some y → ao_le ρ y.2) ∧ (∀ (r0 : Nat) (q0 : Nat) (q1 : Nat) (M : ao_M) (ρ : ao_H) (y : ao_S), fX6_init n 46 r0 q0 q1 M ρ = some y → ao_le ρ y.2) ∧ (∀ (r0 : Nat) (M : ao_M) (ρ : ao_H) (y : ao_S), fX6_init n 49 r0 0 0 M ρ = some y → ao_le ρ y.2) ∧ (∀ (r0 : Nat) (q0 : Nat) (q1 : Nat) (M : ao_M) (ρ : ao_H) (y : ao_S), fX6_init n 58 r0 q0 q1 M ρ = some y → ao_le ρ y.2) ∧ (∀ (r0 : Nat) (M : ao_M) (ρ : ao_H) (y : ao_S), fX6_init n 61 r0 0 0 M ρ = some y → ao_le ρ y.2) ∧ (∀ (r0 : Nat) (q0 : Nat) (q1 : Nat) (M : ao_M) (ρ : ao_H) (y : ao_S), fX6_init n 70 r0 q0 q1 M ρ = some y → ao_le ρ y.2) ∧ (∀ (r0 : Nat) (M : ao_M) (ρ : ao_H) (y : ao_S), fX6_init n 73 r0 0 0 M ρ = some y → ao_le ρ y.2) ∧ (∀ (r0 : Nat) (q0 : Nat) (q1 : Nat) (M : ao_M) (ρ : ao_H) (y : ao_S), fX6_init n 82 r0 q0 q1 M ρ = some y → ao_le ρ y.2) ∧ (∀ (r0 : Nat) (M : ao_M) (ρ : ao_H) (y : ao_S), fX6_init n 85 r0 0 0 M ρ = some y → ao_le ρ y.2) ∧ (∀ (r0 : Nat) (q0 : Nat) (q1 : Nat) (M : ao_M) (ρ : ao_H) (y : ao_S), fX6_init n 94 r0 q0 q1 M ρ = some y → ao_le ρ y.2) ∧ (∀ (r0 : Nat) (M : ao_M) (ρ : ao_H) (y : ao_S), fX6_init n 97 r0 0 0 M ρ = some y → ao_le ρ y.2) := by
  intro n
  induction n with
  | zero => exact ⟨fun _ _ _ _ h => ao_no h, fun _ _ _ _ _ _ h => ao_no h, fun _ _ _ _ h => ao_no h, fun _ _ _ _ _ _ h => ao_no h, fun _ _ _ _ h => ao_no h, fun _ _ _ _ _ _ h => ao_no h, fun _ _ _ _ h => ao_no h, fun _ _ _ _ _ _ h => ao_no h, fun _ _ _ _ h => ao_no h, fun _ _ _ _ _ _ h => ao_no h, fun _ _ _ _ h => ao_no h, fun _ _ _ _ _ _ h => ao_no h, fun _ _ _ _ h => ao_no h, fun _ _ _ _ _ _ h => ao_no h, fun _ _ _ _ h => ao_no h, fun _ _ _ _ _ _ h => ao_no h, fun _ _ _ _ h => ao_no h, fun _ _ _ _ _ _ h => ao_no h, fun _ _ _ _ h => ao_no h⟩
  | succ n ih =>
    refine ⟨?_, ?_, ?_, ?_, ?_, ?_, ?_, ?_, ?_, ?_, ?_, ?_, ?_, ?_, ?_, ?_, ?_, ?_, ?_⟩
    · intro r0 M ρ y h
      replace h := ao_ifT h rfl
      obtain ⟨n1, hn1, h⟩ := ao_bind h
      obtain ⟨-, h⟩ := ao_some h
      exact ao_le_tr (ao_le_nw _ _ _ _ _) (ih.2.1 r0 n1 r0 (ao_zr M n1) (ao_nw ρ n1 0 (300 : Int32).toNatClampNeg (300 : Int32).toNatClampNeg) _ h)
    · intro r0 q0 q1 M ρ y h
      replace h := ao_ifF h (by decide)
      replace h := ao_ifT h rfl
      obtain ⟨-, h⟩ := ao_some h
      exact ao_le_tr (ao_le_r _ _ _ _) (ih.2.2.1 r0 M (ao_r ρ q1 0 (some q0)) _ h)
    · intro r0 M ρ y h
      replace h := ao_ifF h (by decide)
      replace h := ao_ifF h (by decide)
      replace h := ao_ifT h rfl
      obtain ⟨n4, hn4, h⟩ := ao_bind h
      obtain ⟨-, h⟩ := ao_some h
      exact ao_le_tr (ao_le_nw _ _ _ _ _) (ih.2.2.2.1 r0 n4 r0 (ao_zr M n4) (ao_nw ρ n4 0 (300 : Int32).toNatClampNeg (300 : Int32).toNatClampNeg) _ h)
    · intro r0 q0 q1 M ρ y h
      replace h := ao_ifF h (by decide)
      replace h := ao_ifF h (by decide)
      replace h := ao_ifF h (by decide)
      replace h := ao_ifT h rfl
      obtain ⟨-, h⟩ := ao_some h
      exact ao_le_tr (ao_le_r _ _ _ _) (ih.2.2.2.2.1 r0 M (ao_r ρ q1 1 (some q0)) _ h)
    · intro r0 M ρ y h
      replace h := ao_ifF h (by decide)
      replace h := ao_ifF h (by decide)
      replace h := ao_ifF h (by decide)
      replace h := ao_ifF h (by decide)
      replace h := ao_ifT h rfl
      obtain ⟨n7, hn7, h⟩ := ao_bind h
      obtain ⟨-, h⟩ := ao_some h
      exact ao_le_tr (ao_le_nw _ _ _ _ _) (ih.2.2.2.2.2.1 r0 n7 r0 (ao_zr M n7) (ao_nw ρ n7 0 (300 : Int32).toNatClampNeg (300 : Int32).toNatClampNeg) _ h)
    · intro r0 q0 q1 M ρ y h
      replace h := ao_ifF h (by decide)
      replace h := ao_ifF h (by decide)
      replace h := ao_ifF h (by decide)
      replace h := ao_ifF h (by decide)
      replace h := ao_ifF h (by decide)
      replace h := ao_ifT h rfl
      obtain ⟨-, h⟩ := ao_some h
      exact ao_le_tr (ao_le_r _ _ _ _) (ih.2.2.2.2.2.2.1 r0 M (ao_r ρ q1 2 (some q0)) _ h)
    · intro r0 M ρ y h
      replace h := ao_ifF h (by decide)
      replace h := ao_ifF h (by decide)
      replace h := ao_ifF h (by decide)
      replace h := ao_ifF h (by decide)
      replace h := ao_ifF h (by decide)
      replace h := ao_ifF h (by decide)
      replace h := ao_ifT h rfl
      obtain ⟨n10, hn10, h⟩ := ao_bind h
      obtain ⟨-, h⟩ := ao_some h
      exact ao_le_tr (ao_le_nw _ _ _ _ _) (ih.2.2.2.2.2.2.2.1 r0 n10 r0 (ao_zr M n10) (ao_nw ρ n10 0 (300 : Int32).toNatClampNeg (300 : Int32).toNatClampNeg) _ h)
    · intro r0 q0 q1 M ρ y h
      replace h := ao_ifF h (by decide)
      replace h := ao_ifF h (by decide)
      replace h := ao_ifF h (by decide)
      replace h := ao_ifF h (by decide)
      replace h := ao_ifF h (by decide)
      replace h := ao_ifF h (by decide)
      replace h := ao_ifF h (by decide)
      replace h := ao_ifT h rfl
      obtain ⟨-, h⟩ := ao_some h
      exact ao_le_tr (ao_le_r _ _ _ _) (ih.2.2.2.2.2.2.2.2.1 r0 M (ao_r ρ q1 3 (some q0)) _ h)
    · intro r0 M ρ y h
      replace h := ao_ifF h (by decide)
      replace h := ao_ifF h (by decide)
      replace h := ao_ifF h (by decide)
      replace h := ao_ifF h (by decide)
      replace h := ao_ifF h (by decide)
      replace h := ao_ifF h (by decide)
      replace h := ao_ifF h (by decide)
      replace h := ao_ifF h (by decide)
      replace h := ao_ifT h rfl
      obtain ⟨n13, hn13, h⟩ := ao_bind h
      obtain ⟨-, h⟩ := ao_some h
      exact ao_le_tr (ao_le_nw _ _ _ _ _) (ih.2.2.2.2.2.2.2.2.2.1 r0 n13 r0 (ao_zr M n13) (ao_nw ρ n13 0 (300 : Int32).toNatClampNeg (300 : Int32).toNatClampNeg) _ h)
    · intro r0 q0 q1 M ρ y h
      replace h := ao_ifF h (by decide)
      replace h := ao_ifF h (by decide)
      replace h := ao_ifF h (by decide)
      replace h := ao_ifF h (by decide)
      replace h := ao_ifF h (by decide)
      replace h := ao_ifF h (by decide)
      replace h := ao_ifF h (by decide)
      replace h := ao_ifF h (by decide)
      replace h := ao_ifF h (by decide)
      replace h := ao_ifT h rfl
      obtain ⟨-, h⟩ := ao_some h
      exact ao_le_tr (ao_le_r _ _ _ _) (ih.2.2.2.2.2.2.2.2.2.2.1 r0 M (ao_r ρ q1 4 (some q0)) _ h)
    · intro r0 M ρ y h
      replace h := ao_ifF h (by decide)
      replace h := ao_ifF h (by decide)
      replace h := ao_ifF h (by decide)
      replace h := ao_ifF h (by decide)
      replace h := ao_ifF h (by decide)
      replace h := ao_ifF h (by decide)
      replace h := ao_ifF h (by decide)
      replace h := ao_ifF h (by decide)
      replace h := ao_ifF h (by decide)
      replace h := ao_ifF h (by decide)
      replace h := ao_ifT h rfl
      obtain ⟨n16, hn16, h⟩ := ao_bind h
      obtain ⟨-, h⟩ := ao_some h
      exact ao_le_tr (ao_le_nq _ _ _ _) (ih.2.2.2.2.2.2.2.2.2.2.2.1 r0 n16 r0 (ao_zq M n16 (14 : Int32).toNatClampNeg) (ao_nq ρ n16 (14 : Int32).toNatClampNeg (26 : Int32).toNatClampNeg) _ h)
    · intro r0 q0 q1 M ρ y h
      replace h := ao_ifF h (by decide)
      replace h := ao_ifF h (by decide)
      replace h := ao_ifF h (by decide)
      replace h := ao_ifF h (by decide)
      replace h := ao_ifF h (by decide)
      replace h := ao_ifF h (by decide)
      replace h := ao_ifF h (by decide)
      replace h := ao_ifF h (by decide)
      replace h := ao_ifF h (by decide)
      replace h := ao_ifF h (by decide)
      replace h := ao_ifF h (by decide)
      replace h := ao_ifT h rfl
      obtain ⟨-, h⟩ := ao_some h
      exact ao_le_tr (ao_le_r _ _ _ _) (ih.2.2.2.2.2.2.2.2.2.2.2.2.1 r0 M (ao_r ρ q1 5 (some q0)) _ h)
    · intro r0 M ρ y h
      replace h := ao_ifF h (by decide)
      replace h := ao_ifF h (by decide)
      replace h := ao_ifF h (by decide)
      replace h := ao_ifF h (by decide)
      replace h := ao_ifF h (by decide)
      replace h := ao_ifF h (by decide)
      replace h := ao_ifF h (by decide)
      replace h := ao_ifF h (by decide)
      replace h := ao_ifF h (by decide)
      replace h := ao_ifF h (by decide)
      replace h := ao_ifF h (by decide)
      replace h := ao_ifF h (by decide)
      replace h := ao_ifT h rfl
      obtain ⟨n19, hn19, h⟩ := ao_bind h
      obtain ⟨-, h⟩ := ao_some h
      exact ao_le_tr (ao_le_nq _ _ _ _) (ih.2.2.2.2.2.2.2.2.2.2.2.2.2.1 r0 n19 r0 (ao_zq M n19 (14 : Int32).toNatClampNeg) (ao_nq ρ n19 (14 : Int32).toNatClampNeg (26 : Int32).toNatClampNeg) _ h)
    · intro r0 q0 q1 M ρ y h
      replace h := ao_ifF h (by decide)
      replace h := ao_ifF h (by decide)
      replace h := ao_ifF h (by decide)
      replace h := ao_ifF h (by decide)
      replace h := ao_ifF h (by decide)
      replace h := ao_ifF h (by decide)
      replace h := ao_ifF h (by decide)
      replace h := ao_ifF h (by decide)
      replace h := ao_ifF h (by decide)
      replace h := ao_ifF h (by decide)
      replace h := ao_ifF h (by decide)
      replace h := ao_ifF h (by decide)
      replace h := ao_ifF h (by decide)
      replace h := ao_ifT h rfl
      obtain ⟨-, h⟩ := ao_some h
      exact ao_le_tr (ao_le_r _ _ _ _) (ih.2.2.2.2.2.2.2.2.2.2.2.2.2.2.1 r0 M (ao_r ρ q1 6 (some q0)) _ h)
    · intro r0 M ρ y h
      replace h := ao_ifF h (by decide)
      replace h := ao_ifF h (by decide)
      replace h := ao_ifF h (by decide)
      replace h := ao_ifF h (by decide)
      replace h := ao_ifF h (by decide)
      replace h := ao_ifF h (by decide)
      replace h := ao_ifF h (by decide)
      replace h := ao_ifF h (by decide)
      replace h := ao_ifF h (by decide)
      replace h := ao_ifF h (by decide)
      replace h := ao_ifF h (by decide)
      replace h := ao_ifF h (by decide)
      replace h := ao_ifF h (by decide)
      replace h := ao_ifF h (by decide)
      replace h := ao_ifT h rfl
      obtain ⟨n22, hn22, h⟩ := ao_bind h
      obtain ⟨-, h⟩ := ao_some h
      exact ao_le_tr (ao_le_nq _ _ _ _) (ih.2.2.2.2.2.2.2.2.2.2.2.2.2.2.2.1 r0 n22 r0 (ao_zq M n22 (14 : Int32).toNatClampNeg) (ao_nq ρ n22 (14 : Int32).toNatClampNeg (26 : Int32).toNatClampNeg) _ h)
    · intro r0 q0 q1 M ρ y h
      replace h := ao_ifF h (by decide)
      replace h := ao_ifF h (by decide)
      replace h := ao_ifF h (by decide)
      replace h := ao_ifF h (by decide)
      replace h := ao_ifF h (by decide)
      replace h := ao_ifF h (by decide)
      replace h := ao_ifF h (by decide)
      replace h := ao_ifF h (by decide)
      replace h := ao_ifF h (by decide)
      replace h := ao_ifF h (by decide)
      replace h := ao_ifF h (by decide)
      replace h := ao_ifF h (by decide)
      replace h := ao_ifF h (by decide)
      replace h := ao_ifF h (by decide)
      replace h := ao_ifF h (by decide)
      replace h := ao_ifT h rfl
      obtain ⟨-, h⟩ := ao_some h
      exact ao_le_tr (ao_le_r _ _ _ _) (ih.2.2.2.2.2.2.2.2.2.2.2.2.2.2.2.2.1 r0 M (ao_r ρ q1 7 (some q0)) _ h)
    · intro r0 M ρ y h
      replace h := ao_ifF h (by decide)
      replace h := ao_ifF h (by decide)
      replace h := ao_ifF h (by decide)
      replace h := ao_ifF h (by decide)
      replace h := ao_ifF h (by decide)
      replace h := ao_ifF h (by decide)
      replace h := ao_ifF h (by decide)
      replace h := ao_ifF h (by decide)
      replace h := ao_ifF h (by decide)
      replace h := ao_ifF h (by decide)
      replace h := ao_ifF h (by decide)
      replace h := ao_ifF h (by decide)
      replace h := ao_ifF h (by decide)
      replace h := ao_ifF h (by decide)
      replace h := ao_ifF h (by decide)
      replace h := ao_ifF h (by decide)
      replace h := ao_ifT h rfl
      obtain ⟨n25, hn25, h⟩ := ao_bind h
      obtain ⟨-, h⟩ := ao_some h
      exact ao_le_tr (ao_le_nq _ _ _ _) (ih.2.2.2.2.2.2.2.2.2.2.2.2.2.2.2.2.2.1 r0 n25 r0 (ao_zq M n25 (14 : Int32).toNatClampNeg) (ao_nq ρ n25 (14 : Int32).toNatClampNeg (26 : Int32).toNatClampNeg) _ h)
    · intro r0 q0 q1 M ρ y h
      replace h := ao_ifF h (by decide)
      replace h := ao_ifF h (by decide)
      replace h := ao_ifF h (by decide)
      replace h := ao_ifF h (by decide)
      replace h := ao_ifF h (by decide)
      replace h := ao_ifF h (by decide)
      replace h := ao_ifF h (by decide)
      replace h := ao_ifF h (by decide)
      replace h := ao_ifF h (by decide)
      replace h := ao_ifF h (by decide)
      replace h := ao_ifF h (by decide)
      replace h := ao_ifF h (by decide)
      replace h := ao_ifF h (by decide)
      replace h := ao_ifF h (by decide)
      replace h := ao_ifF h (by decide)
      replace h := ao_ifF h (by decide)
      replace h := ao_ifF h (by decide)
      replace h := ao_ifT h rfl
      obtain ⟨-, h⟩ := ao_some h
      exact ao_le_tr (ao_le_r _ _ _ _) (ih.2.2.2.2.2.2.2.2.2.2.2.2.2.2.2.2.2.2 r0 M (ao_r ρ q1 8 (some q0)) _ h)
    · intro r0 M ρ y h
      replace h := ao_ifF h (by decide)
      replace h := ao_ifF h (by decide)
      replace h := ao_ifF h (by decide)
      replace h := ao_ifF h (by decide)
      replace h := ao_ifF h (by decide)
      replace h := ao_ifF h (by decide)
      replace h := ao_ifF h (by decide)
      replace h := ao_ifF h (by decide)
      replace h := ao_ifF h (by decide)
      replace h := ao_ifF h (by decide)
      replace h := ao_ifF h (by decide)
      replace h := ao_ifF h (by decide)
      replace h := ao_ifF h (by decide)
      replace h := ao_ifF h (by decide)
      replace h := ao_ifF h (by decide)
      replace h := ao_ifF h (by decide)
      replace h := ao_ifF h (by decide)
      replace h := ao_ifF h (by decide)
      replace h := ao_ifT h rfl
      cases h
      exact ao_le_rf _
set_option maxRecDepth 100000 in
set_option maxHeartbeats 4000000 in
theorem wX6_init {Γ : ao_C} (d : Nat) (hd : 1 ≤ d) (MC MS : Nat) : ∀ n : Nat, (∀ (r0 : Nat) (M : ao_M) (ρ : ao_H) (y : ao_S), fX6_init n 0 r0 0 0 M ρ = some y → ao_W Γ uX6_init (ao_rm d MC MS) (ao_Q Γ (ao_QV y) MC MS) (ao_dc ρ y.2) (ao_ds ρ y.2) 0 [some (.ref (Γ.2.2.2 + r0))] [] (M, ρ)) ∧ (∀ (r0 : Nat) (q0 : Nat) (q1 : Nat) (M : ao_M) (ρ : ao_H) (y : ao_S), fX6_init n 10 r0 q0 q1 M ρ = some y → ao_W Γ uX6_init (ao_rm d MC MS) (ao_Q Γ (ao_QV y) MC MS) (ao_dc ρ y.2) (ao_ds ρ y.2) 10 [some (.ref (Γ.2.2.2 + r0))] [.ref (Γ.2.2.2 + q0), .ref (Γ.2.2.2 + q1)] (M, ρ)) ∧ (∀ (r0 : Nat) (M : ao_M) (ρ : ao_H) (y : ao_S), fX6_init n 13 r0 0 0 M ρ = some y → ao_W Γ uX6_init (ao_rm d MC MS) (ao_Q Γ (ao_QV y) MC MS) (ao_dc ρ y.2) (ao_ds ρ y.2) 13 [some (.ref (Γ.2.2.2 + r0))] [] (M, ρ)) ∧ (∀ (r0 : Nat) (q0 : Nat) (q1 : Nat) (M : ao_M) (ρ : ao_H) (y : ao_S), fX6_init n 19 r0 q0 q1 M ρ = some y → ao_W Γ uX6_init (ao_rm d MC MS) (ao_Q Γ (ao_QV y) MC MS) (ao_dc ρ y.2) (ao_ds ρ y.2) 19 [some (.ref (Γ.2.2.2 + r0))] [.ref (Γ.2.2.2 + q0), .ref (Γ.2.2.2 + q1)] (M, ρ)) ∧ (∀ (r0 : Nat) (M : ao_M) (ρ : ao_H) (y : ao_S), fX6_init n 22 r0 0 0 M ρ = some y → ao_W Γ uX6_init (ao_rm d MC MS) (ao_Q Γ (ao_QV y) MC MS) (ao_dc ρ y.2) (ao_ds ρ y.2) 22 [some (.ref (Γ.2.2.2 + r0))] [] (M, ρ)) ∧ (∀ (r0 : Nat) (q0 : Nat) (q1 : Nat) (M : ao_M) (ρ : ao_H) (y : ao_S), fX6_init n 28 r0 q0 q1 M ρ = some y → ao_W Γ uX6_init (ao_rm d MC MS) (ao_Q Γ (ao_QV y) MC MS) (ao_dc ρ y.2) (ao_ds ρ y.2) 28 [some (.ref (Γ.2.2.2 + r0))] [.ref (Γ.2.2.2 + q0), .ref (Γ.2.2.2 + q1)] (M, ρ)) ∧ (∀ (r0 : Nat) (M : ao_M) (ρ : ao_H) (y : ao_S), fX6_init n 31 r0 0 0 M ρ = some y → ao_W Γ uX6_init (ao_rm d MC MS) (ao_Q Γ (ao_QV y) MC MS) (ao_dc ρ y.2) (ao_ds ρ y.2) 31 [some (.ref (Γ.2.2.2 + r0))] [] (M, ρ)) ∧ (∀ (r0 : Nat) (q0 : Nat) (q1 : Nat) (M : ao_M) (ρ : ao_H) (y : ao_S), fX6_init n 37 r0 q0 q1 M ρ = some y → ao_W Γ uX6_init (ao_rm d MC MS) (ao_Q Γ (ao_QV y) MC MS) (ao_dc ρ y.2) (ao_ds ρ y.2) 37 [some (.ref (Γ.2.2.2 + r0))] [.ref (Γ.2.2.2 + q0), .ref (Γ.2.2.2 + q1)] (M, ρ)) ∧ (∀ (r0 : Nat) (M : ao_M) (ρ : ao_H) (y : ao_S), fX6_init n 40 r0 0 0 M ρ = some y → ao_W Γ uX6_init (ao_rm d MC MS) (ao_Q Γ (ao_QV y) MC MS) (ao_dc ρ y.2) (ao_ds ρ y.2) 40 [some (.ref (Γ.2.2.2 + r0))] [] (M, ρ)) ∧ (∀ (r0 : Nat) (q0 : Nat) (q1 : Nat) (M : ao_M) (ρ : ao_H) (y : ao_S), fX6_init n 46 r0 q0 q1 M ρ = some y → ao_W Γ uX6_init (ao_rm d MC MS) (ao_Q Γ (ao_QV y) MC MS) (ao_dc ρ y.2) (ao_ds ρ y.2) 46 [some (.ref (Γ.2.2.2 + r0))] [.ref (Γ.2.2.2 + q0), .ref (Γ.2.2.2 + q1)] (M, ρ)) ∧ (∀ (r0 : Nat) (M : ao_M) (ρ : ao_H) (y : ao_S), fX6_init n 49 r0 0 0 M ρ = some y → ao_W Γ uX6_init (ao_rm d MC MS) (ao_Q Γ (ao_QV y) MC MS) (ao_dc ρ y.2) (ao_ds ρ y.2) 49 [some (.ref (Γ.2.2.2 + r0))] [] (M, ρ)) ∧ (∀ (r0 : Nat) (q0 : Nat) (q1 : Nat) (M : ao_M) (ρ : ao_H) (y : ao_S), fX6_init n 58 r0 q0 q1 M ρ = some y → ao_W Γ uX6_init (ao_rm d MC MS) (ao_Q Γ (ao_QV y) MC MS) (ao_dc ρ y.2) (ao_ds ρ y.2) 58 [some (.ref (Γ.2.2.2 + r0))] [.ref (Γ.2.2.2 + q0), .ref (Γ.2.2.2 + q1)] (M, ρ)) ∧ (∀ (r0 : Nat) (M : ao_M) (ρ : ao_H) (y : ao_S), fX6_init n 61 r0 0 0 M ρ = some y → ao_W Γ uX6_init (ao_rm d MC MS) (ao_Q Γ (ao_QV y) MC MS) (ao_dc ρ y.2) (ao_ds ρ y.2) 61 [some (.ref (Γ.2.2.2 + r0))] [] (M, ρ)) ∧ (∀ (r0 : Nat) (q0 : Nat) (q1 : Nat) (M : ao_M) (ρ : ao_H) (y : ao_S), fX6_init n 70 r0 q0 q1 M ρ = some y → ao_W Γ uX6_init (ao_rm d MC MS) (ao_Q Γ (ao_QV y) MC MS) (ao_dc ρ y.2) (ao_ds ρ y.2) 70 [some (.ref (Γ.2.2.2 + r0))] [.ref (Γ.2.2.2 + q0), .ref (Γ.2.2.2 + q1)] (M, ρ)) ∧ (∀ (r0 : Nat) (M : ao_M) (ρ : ao_H) (y : ao_S), fX6_init n 73 r0 0 0 M ρ = some y → ao_W Γ uX6_init (ao_rm d MC MS) (ao_Q Γ (ao_QV y) MC MS) (ao_dc ρ y.2) (ao_ds ρ y.2) 73 [some (.ref (Γ.2.2.2 + r0))] [] (M, ρ)) ∧ (∀ (r0 : Nat) (q0 : Nat) (q1 : Nat) (M : ao_M) (ρ : ao_H) (y : ao_S), fX6_init n 82 r0 q0 q1 M ρ = some y → ao_W Γ uX6_init (ao_rm d MC MS) (ao_Q Γ (ao_QV y) MC MS) (ao_dc ρ y.2) (ao_ds ρ y.2) 82 [some (.ref (Γ.2.2.2 + r0))] [.ref (Γ.2.2.2 + q0), .ref (Γ.2.2.2 + q1)] (M, ρ)) ∧ (∀ (r0 : Nat) (M : ao_M) (ρ : ao_H) (y : ao_S), fX6_init n 85 r0 0 0 M ρ = some y → ao_W Γ uX6_init (ao_rm d MC MS) (ao_Q Γ (ao_QV y) MC MS) (ao_dc ρ y.2) (ao_ds ρ y.2) 85 [some (.ref (Γ.2.2.2 + r0))] [] (M, ρ)) ∧ (∀ (r0 : Nat) (q0 : Nat) (q1 : Nat) (M : ao_M) (ρ : ao_H) (y : ao_S), fX6_init n 94 r0 q0 q1 M ρ = some y → ao_W Γ uX6_init (ao_rm d MC MS) (ao_Q Γ (ao_QV y) MC MS) (ao_dc ρ y.2) (ao_ds ρ y.2) 94 [some (.ref (Γ.2.2.2 + r0))] [.ref (Γ.2.2.2 + q0), .ref (Γ.2.2.2 + q1)] (M, ρ)) ∧ (∀ (r0 : Nat) (M : ao_M) (ρ : ao_H) (y : ao_S), fX6_init n 97 r0 0 0 M ρ = some y → ao_W Γ uX6_init (ao_rm d MC MS) (ao_Q Γ (ao_QV y) MC MS) (ao_dc ρ y.2) (ao_ds ρ y.2) 97 [some (.ref (Γ.2.2.2 + r0))] [] (M, ρ)) := by
  intro n
  induction n with
  | zero => exact ⟨fun _ _ _ _ h => ao_no h, fun _ _ _ _ _ _ h => ao_no h, fun _ _ _ _ h => ao_no h, fun _ _ _ _ _ _ h => ao_no h, fun _ _ _ _ h => ao_no h, fun _ _ _ _ _ _ h => ao_no h, fun _ _ _ _ h => ao_no h, fun _ _ _ _ _ _ h => ao_no h, fun _ _ _ _ h => ao_no h, fun _ _ _ _ _ _ h => ao_no h, fun _ _ _ _ h => ao_no h, fun _ _ _ _ _ _ h => ao_no h, fun _ _ _ _ h => ao_no h, fun _ _ _ _ _ _ h => ao_no h, fun _ _ _ _ h => ao_no h, fun _ _ _ _ _ _ h => ao_no h, fun _ _ _ _ h => ao_no h, fun _ _ _ _ _ _ h => ao_no h, fun _ _ _ _ h => ao_no h⟩
  | succ n ih =>
    refine ⟨?_, ?_, ?_, ?_, ?_, ?_, ?_, ?_, ?_, ?_, ?_, ?_, ?_, ?_, ?_, ?_, ?_, ?_, ?_⟩
    · intro r0 M ρ y h
      replace h := ao_ifT h rfl
      refine ao_aload_n 0 dX6_init_0 rfl rfl ?_
      refine bi_obj dX6_init_1 loi_X6_3 (Nat.le_of_ble_eq_true rfl) (ao_cpR (by omega)) ?_
      refine ao_aload_n 0 dX6_init_4 rfl rfl ?_
      refine ao_sipush (v := 300) dX6_init_5 (by decide) ?_
      obtain ⟨n1, hn1, h⟩ := ao_bind h
      obtain ⟨hb2, h⟩ := ao_some h
      refine ba_newa n1 0 dX6_init_8 rfl (by decide) hn1 lna_0 hb2.1 hb2.2 (ao_dc_nw ((mX6_init n).2.1 r0 n1 r0 (ao_zr M n1) (ao_nw ρ n1 0 (300 : Int32).toNatClampNeg (300 : Int32).toNatClampNeg) _ h)) ?_
      exact ih.2.1 r0 n1 r0 (ao_zr M n1) (ao_nw ρ n1 0 (300 : Int32).toNatClampNeg (300 : Int32).toNatClampNeg) _ h
    · intro r0 q0 q1 M ρ y h
      replace h := ao_ifF h (by decide)
      replace h := ao_ifT h rfl
      obtain ⟨hk3, h⟩ := ao_some h
      refine ba_putR q1 6 0 (q := (RX6, TX6, 11)) dX6_init_10 rfl hk3 (Nat.le_of_ble_eq_true rfl) lf_X6_9 (Or.inr ⟨rfl, rfl⟩) rfl rfl rfl ?_
      exact ih.2.2.1 r0 M (ao_r ρ q1 0 (some q0)) _ h
    · intro r0 M ρ y h
      replace h := ao_ifF h (by decide)
      replace h := ao_ifF h (by decide)
      replace h := ao_ifT h rfl
      refine ao_aload_n 0 dX6_init_13 rfl rfl ?_
      refine ao_sipush (v := 300) dX6_init_14 (by decide) ?_
      obtain ⟨n4, hn4, h⟩ := ao_bind h
      obtain ⟨hb5, h⟩ := ao_some h
      refine ba_newa n4 0 dX6_init_17 rfl (by decide) hn4 lna_0 hb5.1 hb5.2 (ao_dc_nw ((mX6_init n).2.2.2.1 r0 n4 r0 (ao_zr M n4) (ao_nw ρ n4 0 (300 : Int32).toNatClampNeg (300 : Int32).toNatClampNeg) _ h)) ?_
      exact ih.2.2.2.1 r0 n4 r0 (ao_zr M n4) (ao_nw ρ n4 0 (300 : Int32).toNatClampNeg (300 : Int32).toNatClampNeg) _ h
    · intro r0 q0 q1 M ρ y h
      replace h := ao_ifF h (by decide)
      replace h := ao_ifF h (by decide)
      replace h := ao_ifF h (by decide)
      replace h := ao_ifT h rfl
      obtain ⟨hk6, h⟩ := ao_some h
      refine ba_putR q1 6 1 (q := (RX6, TX6, 11)) dX6_init_19 rfl hk6 (Nat.le_of_ble_eq_true rfl) lf_X6_15 (Or.inr ⟨rfl, rfl⟩) rfl rfl rfl ?_
      exact ih.2.2.2.2.1 r0 M (ao_r ρ q1 1 (some q0)) _ h
    · intro r0 M ρ y h
      replace h := ao_ifF h (by decide)
      replace h := ao_ifF h (by decide)
      replace h := ao_ifF h (by decide)
      replace h := ao_ifF h (by decide)
      replace h := ao_ifT h rfl
      refine ao_aload_n 0 dX6_init_22 rfl rfl ?_
      refine ao_sipush (v := 300) dX6_init_23 (by decide) ?_
      obtain ⟨n7, hn7, h⟩ := ao_bind h
      obtain ⟨hb8, h⟩ := ao_some h
      refine ba_newa n7 0 dX6_init_26 rfl (by decide) hn7 lna_0 hb8.1 hb8.2 (ao_dc_nw ((mX6_init n).2.2.2.2.2.1 r0 n7 r0 (ao_zr M n7) (ao_nw ρ n7 0 (300 : Int32).toNatClampNeg (300 : Int32).toNatClampNeg) _ h)) ?_
      exact ih.2.2.2.2.2.1 r0 n7 r0 (ao_zr M n7) (ao_nw ρ n7 0 (300 : Int32).toNatClampNeg (300 : Int32).toNatClampNeg) _ h
    · intro r0 q0 q1 M ρ y h
      replace h := ao_ifF h (by decide)
      replace h := ao_ifF h (by decide)
      replace h := ao_ifF h (by decide)
      replace h := ao_ifF h (by decide)
      replace h := ao_ifF h (by decide)
      replace h := ao_ifT h rfl
      obtain ⟨hk9, h⟩ := ao_some h
      refine ba_putR q1 6 2 (q := (RX6, TX6, 11)) dX6_init_28 rfl hk9 (Nat.le_of_ble_eq_true rfl) lf_X6_18 (Or.inr ⟨rfl, rfl⟩) rfl rfl rfl ?_
      exact ih.2.2.2.2.2.2.1 r0 M (ao_r ρ q1 2 (some q0)) _ h
    · intro r0 M ρ y h
      replace h := ao_ifF h (by decide)
      replace h := ao_ifF h (by decide)
      replace h := ao_ifF h (by decide)
      replace h := ao_ifF h (by decide)
      replace h := ao_ifF h (by decide)
      replace h := ao_ifF h (by decide)
      replace h := ao_ifT h rfl
      refine ao_aload_n 0 dX6_init_31 rfl rfl ?_
      refine ao_sipush (v := 300) dX6_init_32 (by decide) ?_
      obtain ⟨n10, hn10, h⟩ := ao_bind h
      obtain ⟨hb11, h⟩ := ao_some h
      refine ba_newa n10 0 dX6_init_35 rfl (by decide) hn10 lna_0 hb11.1 hb11.2 (ao_dc_nw ((mX6_init n).2.2.2.2.2.2.2.1 r0 n10 r0 (ao_zr M n10) (ao_nw ρ n10 0 (300 : Int32).toNatClampNeg (300 : Int32).toNatClampNeg) _ h)) ?_
      exact ih.2.2.2.2.2.2.2.1 r0 n10 r0 (ao_zr M n10) (ao_nw ρ n10 0 (300 : Int32).toNatClampNeg (300 : Int32).toNatClampNeg) _ h
    · intro r0 q0 q1 M ρ y h
      replace h := ao_ifF h (by decide)
      replace h := ao_ifF h (by decide)
      replace h := ao_ifF h (by decide)
      replace h := ao_ifF h (by decide)
      replace h := ao_ifF h (by decide)
      replace h := ao_ifF h (by decide)
      replace h := ao_ifF h (by decide)
      replace h := ao_ifT h rfl
      obtain ⟨hk12, h⟩ := ao_some h
      refine ba_putR q1 6 3 (q := (RX6, TX6, 11)) dX6_init_37 rfl hk12 (Nat.le_of_ble_eq_true rfl) lf_X6_21 (Or.inr ⟨rfl, rfl⟩) rfl rfl rfl ?_
      exact ih.2.2.2.2.2.2.2.2.1 r0 M (ao_r ρ q1 3 (some q0)) _ h
    · intro r0 M ρ y h
      replace h := ao_ifF h (by decide)
      replace h := ao_ifF h (by decide)
      replace h := ao_ifF h (by decide)
      replace h := ao_ifF h (by decide)
      replace h := ao_ifF h (by decide)
      replace h := ao_ifF h (by decide)
      replace h := ao_ifF h (by decide)
      replace h := ao_ifF h (by decide)
      replace h := ao_ifT h rfl
      refine ao_aload_n 0 dX6_init_40 rfl rfl ?_
      refine ao_sipush (v := 300) dX6_init_41 (by decide) ?_
      obtain ⟨n13, hn13, h⟩ := ao_bind h
      obtain ⟨hb14, h⟩ := ao_some h
      refine ba_newa n13 0 dX6_init_44 rfl (by decide) hn13 lna_0 hb14.1 hb14.2 (ao_dc_nw ((mX6_init n).2.2.2.2.2.2.2.2.2.1 r0 n13 r0 (ao_zr M n13) (ao_nw ρ n13 0 (300 : Int32).toNatClampNeg (300 : Int32).toNatClampNeg) _ h)) ?_
      exact ih.2.2.2.2.2.2.2.2.2.1 r0 n13 r0 (ao_zr M n13) (ao_nw ρ n13 0 (300 : Int32).toNatClampNeg (300 : Int32).toNatClampNeg) _ h
    · intro r0 q0 q1 M ρ y h
      replace h := ao_ifF h (by decide)
      replace h := ao_ifF h (by decide)
      replace h := ao_ifF h (by decide)
      replace h := ao_ifF h (by decide)
      replace h := ao_ifF h (by decide)
      replace h := ao_ifF h (by decide)
      replace h := ao_ifF h (by decide)
      replace h := ao_ifF h (by decide)
      replace h := ao_ifF h (by decide)
      replace h := ao_ifT h rfl
      obtain ⟨hk15, h⟩ := ao_some h
      refine ba_putR q1 6 4 (q := (RX6, TX6, 11)) dX6_init_46 rfl hk15 (Nat.le_of_ble_eq_true rfl) lf_X6_24 (Or.inr ⟨rfl, rfl⟩) rfl rfl rfl ?_
      exact ih.2.2.2.2.2.2.2.2.2.2.1 r0 M (ao_r ρ q1 4 (some q0)) _ h
    · intro r0 M ρ y h
      replace h := ao_ifF h (by decide)
      replace h := ao_ifF h (by decide)
      replace h := ao_ifF h (by decide)
      replace h := ao_ifF h (by decide)
      replace h := ao_ifF h (by decide)
      replace h := ao_ifF h (by decide)
      replace h := ao_ifF h (by decide)
      replace h := ao_ifF h (by decide)
      replace h := ao_ifF h (by decide)
      replace h := ao_ifF h (by decide)
      replace h := ao_ifT h rfl
      refine ao_aload_n 0 dX6_init_49 rfl rfl ?_
      refine ao_bipush (v := 14) dX6_init_50 (by decide) ?_
      refine ao_bipush (v := 26) dX6_init_52 (by decide) ?_
      obtain ⟨n16, hn16, h⟩ := ao_bind h
      obtain ⟨hb17, h⟩ := ao_some h
      refine bi_multi n16 dX6_init_54 hn16 lma_X6_27 hb17 (ao_dc_nq ((mX6_init n).2.2.2.2.2.2.2.2.2.2.2.1 r0 n16 r0 (ao_zq M n16 (14 : Int32).toNatClampNeg) (ao_nq ρ n16 (14 : Int32).toNatClampNeg (26 : Int32).toNatClampNeg) _ h)) ?_
      exact ih.2.2.2.2.2.2.2.2.2.2.2.1 r0 n16 r0 (ao_zq M n16 (14 : Int32).toNatClampNeg) (ao_nq ρ n16 (14 : Int32).toNatClampNeg (26 : Int32).toNatClampNeg) _ h
    · intro r0 q0 q1 M ρ y h
      replace h := ao_ifF h (by decide)
      replace h := ao_ifF h (by decide)
      replace h := ao_ifF h (by decide)
      replace h := ao_ifF h (by decide)
      replace h := ao_ifF h (by decide)
      replace h := ao_ifF h (by decide)
      replace h := ao_ifF h (by decide)
      replace h := ao_ifF h (by decide)
      replace h := ao_ifF h (by decide)
      replace h := ao_ifF h (by decide)
      replace h := ao_ifF h (by decide)
      replace h := ao_ifT h rfl
      obtain ⟨hk18, h⟩ := ao_some h
      refine ba_putR q1 6 5 (q := (RX6, TX6, 11)) dX6_init_58 rfl hk18 (Nat.le_of_ble_eq_true rfl) lf_X6_29 (Or.inr ⟨rfl, rfl⟩) rfl rfl rfl ?_
      exact ih.2.2.2.2.2.2.2.2.2.2.2.2.1 r0 M (ao_r ρ q1 5 (some q0)) _ h
    · intro r0 M ρ y h
      replace h := ao_ifF h (by decide)
      replace h := ao_ifF h (by decide)
      replace h := ao_ifF h (by decide)
      replace h := ao_ifF h (by decide)
      replace h := ao_ifF h (by decide)
      replace h := ao_ifF h (by decide)
      replace h := ao_ifF h (by decide)
      replace h := ao_ifF h (by decide)
      replace h := ao_ifF h (by decide)
      replace h := ao_ifF h (by decide)
      replace h := ao_ifF h (by decide)
      replace h := ao_ifF h (by decide)
      replace h := ao_ifT h rfl
      refine ao_aload_n 0 dX6_init_61 rfl rfl ?_
      refine ao_bipush (v := 14) dX6_init_62 (by decide) ?_
      refine ao_bipush (v := 26) dX6_init_64 (by decide) ?_
      obtain ⟨n19, hn19, h⟩ := ao_bind h
      obtain ⟨hb20, h⟩ := ao_some h
      refine bi_multi n19 dX6_init_66 hn19 lma_X6_27 hb20 (ao_dc_nq ((mX6_init n).2.2.2.2.2.2.2.2.2.2.2.2.2.1 r0 n19 r0 (ao_zq M n19 (14 : Int32).toNatClampNeg) (ao_nq ρ n19 (14 : Int32).toNatClampNeg (26 : Int32).toNatClampNeg) _ h)) ?_
      exact ih.2.2.2.2.2.2.2.2.2.2.2.2.2.1 r0 n19 r0 (ao_zq M n19 (14 : Int32).toNatClampNeg) (ao_nq ρ n19 (14 : Int32).toNatClampNeg (26 : Int32).toNatClampNeg) _ h
    · intro r0 q0 q1 M ρ y h
      replace h := ao_ifF h (by decide)
      replace h := ao_ifF h (by decide)
      replace h := ao_ifF h (by decide)
      replace h := ao_ifF h (by decide)
      replace h := ao_ifF h (by decide)
      replace h := ao_ifF h (by decide)
      replace h := ao_ifF h (by decide)
      replace h := ao_ifF h (by decide)
      replace h := ao_ifF h (by decide)
      replace h := ao_ifF h (by decide)
      replace h := ao_ifF h (by decide)
      replace h := ao_ifF h (by decide)
      replace h := ao_ifF h (by decide)
      replace h := ao_ifT h rfl
      obtain ⟨hk21, h⟩ := ao_some h
      refine ba_putR q1 6 6 (q := (RX6, TX6, 11)) dX6_init_70 rfl hk21 (Nat.le_of_ble_eq_true rfl) lf_X6_32 (Or.inr ⟨rfl, rfl⟩) rfl rfl rfl ?_
      exact ih.2.2.2.2.2.2.2.2.2.2.2.2.2.2.1 r0 M (ao_r ρ q1 6 (some q0)) _ h
    · intro r0 M ρ y h
      replace h := ao_ifF h (by decide)
      replace h := ao_ifF h (by decide)
      replace h := ao_ifF h (by decide)
      replace h := ao_ifF h (by decide)
      replace h := ao_ifF h (by decide)
      replace h := ao_ifF h (by decide)
      replace h := ao_ifF h (by decide)
      replace h := ao_ifF h (by decide)
      replace h := ao_ifF h (by decide)
      replace h := ao_ifF h (by decide)
      replace h := ao_ifF h (by decide)
      replace h := ao_ifF h (by decide)
      replace h := ao_ifF h (by decide)
      replace h := ao_ifF h (by decide)
      replace h := ao_ifT h rfl
      refine ao_aload_n 0 dX6_init_73 rfl rfl ?_
      refine ao_bipush (v := 14) dX6_init_74 (by decide) ?_
      refine ao_bipush (v := 26) dX6_init_76 (by decide) ?_
      obtain ⟨n22, hn22, h⟩ := ao_bind h
      obtain ⟨hb23, h⟩ := ao_some h
      refine bi_multi n22 dX6_init_78 hn22 lma_X6_27 hb23 (ao_dc_nq ((mX6_init n).2.2.2.2.2.2.2.2.2.2.2.2.2.2.2.1 r0 n22 r0 (ao_zq M n22 (14 : Int32).toNatClampNeg) (ao_nq ρ n22 (14 : Int32).toNatClampNeg (26 : Int32).toNatClampNeg) _ h)) ?_
      exact ih.2.2.2.2.2.2.2.2.2.2.2.2.2.2.2.1 r0 n22 r0 (ao_zq M n22 (14 : Int32).toNatClampNeg) (ao_nq ρ n22 (14 : Int32).toNatClampNeg (26 : Int32).toNatClampNeg) _ h
    · intro r0 q0 q1 M ρ y h
      replace h := ao_ifF h (by decide)
      replace h := ao_ifF h (by decide)
      replace h := ao_ifF h (by decide)
      replace h := ao_ifF h (by decide)
      replace h := ao_ifF h (by decide)
      replace h := ao_ifF h (by decide)
      replace h := ao_ifF h (by decide)
      replace h := ao_ifF h (by decide)
      replace h := ao_ifF h (by decide)
      replace h := ao_ifF h (by decide)
      replace h := ao_ifF h (by decide)
      replace h := ao_ifF h (by decide)
      replace h := ao_ifF h (by decide)
      replace h := ao_ifF h (by decide)
      replace h := ao_ifF h (by decide)
      replace h := ao_ifT h rfl
      obtain ⟨hk24, h⟩ := ao_some h
      refine ba_putR q1 6 7 (q := (RX6, TX6, 11)) dX6_init_82 rfl hk24 (Nat.le_of_ble_eq_true rfl) lf_X6_35 (Or.inr ⟨rfl, rfl⟩) rfl rfl rfl ?_
      exact ih.2.2.2.2.2.2.2.2.2.2.2.2.2.2.2.2.1 r0 M (ao_r ρ q1 7 (some q0)) _ h
    · intro r0 M ρ y h
      replace h := ao_ifF h (by decide)
      replace h := ao_ifF h (by decide)
      replace h := ao_ifF h (by decide)
      replace h := ao_ifF h (by decide)
      replace h := ao_ifF h (by decide)
      replace h := ao_ifF h (by decide)
      replace h := ao_ifF h (by decide)
      replace h := ao_ifF h (by decide)
      replace h := ao_ifF h (by decide)
      replace h := ao_ifF h (by decide)
      replace h := ao_ifF h (by decide)
      replace h := ao_ifF h (by decide)
      replace h := ao_ifF h (by decide)
      replace h := ao_ifF h (by decide)
      replace h := ao_ifF h (by decide)
      replace h := ao_ifF h (by decide)
      replace h := ao_ifT h rfl
      refine ao_aload_n 0 dX6_init_85 rfl rfl ?_
      refine ao_bipush (v := 14) dX6_init_86 (by decide) ?_
      refine ao_bipush (v := 26) dX6_init_88 (by decide) ?_
      obtain ⟨n25, hn25, h⟩ := ao_bind h
      obtain ⟨hb26, h⟩ := ao_some h
      refine bi_multi n25 dX6_init_90 hn25 lma_X6_27 hb26 (ao_dc_nq ((mX6_init n).2.2.2.2.2.2.2.2.2.2.2.2.2.2.2.2.2.1 r0 n25 r0 (ao_zq M n25 (14 : Int32).toNatClampNeg) (ao_nq ρ n25 (14 : Int32).toNatClampNeg (26 : Int32).toNatClampNeg) _ h)) ?_
      exact ih.2.2.2.2.2.2.2.2.2.2.2.2.2.2.2.2.2.1 r0 n25 r0 (ao_zq M n25 (14 : Int32).toNatClampNeg) (ao_nq ρ n25 (14 : Int32).toNatClampNeg (26 : Int32).toNatClampNeg) _ h
    · intro r0 q0 q1 M ρ y h
      replace h := ao_ifF h (by decide)
      replace h := ao_ifF h (by decide)
      replace h := ao_ifF h (by decide)
      replace h := ao_ifF h (by decide)
      replace h := ao_ifF h (by decide)
      replace h := ao_ifF h (by decide)
      replace h := ao_ifF h (by decide)
      replace h := ao_ifF h (by decide)
      replace h := ao_ifF h (by decide)
      replace h := ao_ifF h (by decide)
      replace h := ao_ifF h (by decide)
      replace h := ao_ifF h (by decide)
      replace h := ao_ifF h (by decide)
      replace h := ao_ifF h (by decide)
      replace h := ao_ifF h (by decide)
      replace h := ao_ifF h (by decide)
      replace h := ao_ifF h (by decide)
      replace h := ao_ifT h rfl
      obtain ⟨hk27, h⟩ := ao_some h
      refine ba_putR q1 6 8 (q := (RX6, TX6, 11)) dX6_init_94 rfl hk27 (Nat.le_of_ble_eq_true rfl) lf_X6_38 (Or.inr ⟨rfl, rfl⟩) rfl rfl rfl ?_
      exact ih.2.2.2.2.2.2.2.2.2.2.2.2.2.2.2.2.2.2 r0 M (ao_r ρ q1 8 (some q0)) _ h
    · intro r0 M ρ y h
      replace h := ao_ifF h (by decide)
      replace h := ao_ifF h (by decide)
      replace h := ao_ifF h (by decide)
      replace h := ao_ifF h (by decide)
      replace h := ao_ifF h (by decide)
      replace h := ao_ifF h (by decide)
      replace h := ao_ifF h (by decide)
      replace h := ao_ifF h (by decide)
      replace h := ao_ifF h (by decide)
      replace h := ao_ifF h (by decide)
      replace h := ao_ifF h (by decide)
      replace h := ao_ifF h (by decide)
      replace h := ao_ifF h (by decide)
      replace h := ao_ifF h (by decide)
      replace h := ao_ifF h (by decide)
      replace h := ao_ifF h (by decide)
      replace h := ao_ifF h (by decide)
      replace h := ao_ifF h (by decide)
      replace h := ao_ifT h rfl
      cases h
      exact ao_return dX6_init_97 rfl ⟨rfl, rfl⟩
theorem me_X6_init (n : Nat) (r0 : Nat) (M : ao_M) (ρ : ao_H) {y : ao_S} (h : gX6_init n r0 M ρ = some y) : ao_le ρ y.2 := (mX6_init n).1 r0 M ρ y h
set_option maxRecDepth 100000 in
set_option maxHeartbeats 4000000 in
theorem aX6_init {Γ : ao_C} (d : Nat) (hd : 1 ≤ d) (n : Nat) (r0 : Nat) (M : ao_M) (ρ : ao_H) {y : ao_S} (h : gX6_init n r0 M ρ = some y) : ao_A Γ uX6_init d (ao_dc ρ y.2) (ao_ds ρ y.2) [.ref (Γ.2.2.2 + r0)] (M, ρ) (ao_QV y) := by
  refine ao_of (by decide) (ao_cat1 (Nat.le_of_ble_eq_true rfl)) (Nat.le_of_ble_eq_true rfl) ?_
  show ao_W Γ uX6_init (ao_rm d (ao_dc ρ y.2) (ao_ds ρ y.2)) (ao_Q Γ (ao_QV y) (ao_dc ρ y.2) (ao_ds ρ y.2)) (ao_dc ρ y.2) (ao_ds ρ y.2) 0 [some (.ref (Γ.2.2.2 + r0))] [] (M, ρ)
  exact (wX6_init d hd _ _ n).1 r0 M ρ y h

abbrev uX6_clear : ao_Mi := (yX6_clear, cX6_clear, 1, none, [])
def gX6_clear (r0 : Nat) (M : ao_M) (ρ : ao_H) : Option (ao_M) :=
  if ρ.2.1 r0 = 16 then
  ao_let (ao_u M r0 9 (0 : Int32)) fun M2 =>
  ao_let (ao_u M2 r0 10 (0 : Int32)) fun M3 =>
  some M3
  else none
set_option maxRecDepth 100000 in
set_option maxHeartbeats 4000000 in
theorem aX6_clear {Γ : ao_C} (d : Nat) (hd : 0 ≤ d) (r0 : Nat) (M : ao_M) (ρ : ao_H) {y : ao_M} (h : gX6_clear r0 M ρ = some y) : ao_A Γ uX6_clear d 0 0 [.ref (Γ.2.2.2 + r0)] (M, ρ) (ao_PV ρ y) := by
  refine ao_of (by decide) (ao_cat1 (Nat.le_of_ble_eq_true rfl)) (Nat.le_of_ble_eq_true rfl) ?_
  show ao_W Γ uX6_clear (ao_rm d 0 0) (ao_Q Γ (ao_PV ρ y) 0 0) 0 0 0 [some (.ref (Γ.2.2.2 + r0))] [] (M, ρ)
  unfold gX6_clear at h
  refine ao_aload_n 0 dX6_clear_0 rfl rfl ?_
  refine ao_iconst (v := 0) dX6_clear_1 (by decide) ?_
  obtain ⟨hk1, h⟩ := ao_some h
  refine an_putI r0 6 9 (q := (RX6, TX6, 11)) dX6_clear_2 rfl hk1 (Nat.le_of_ble_eq_true rfl) lf_X6_41 rfl rfl rfl rfl (fun M2 hM2 => ?_)
  replace h := ao_letD h hM2
  refine ao_aload_n 0 dX6_clear_5 rfl rfl ?_
  refine ao_iconst (v := 0) dX6_clear_6 (by decide) ?_
  refine an_putI r0 6 10 (q := (RX6, TX6, 11)) dX6_clear_7 rfl hk1 (Nat.le_of_ble_eq_true rfl) lf_X6_45 rfl rfl rfl rfl (fun M3 hM3 => ?_)
  replace h := ao_letD h hM3
  cases h
  exact ao_return dX6_clear_10 rfl ⟨rfl, rfl⟩

abbrev uX6_begin : ao_Mi := (yX6_begin, cX6_begin, 4, none, [])
def fX6_begin : Nat → Nat → Nat → Int32 → Int32 → Int32 → Nat → Int32 → Nat →  ao_M → ao_H → Option (ao_M)
  | 0, _, _, _, _, _, _, _, _, _, _ => none
  | n + 1, pc, r0, x1, x2, x3, q0, s0, q1, M, ρ =>
    if pc = 0 then
      if ρ.2.1 r0 = 16 then
      if (M r0 9) < 0 then
        fX6_begin n 22 r0 x1 x2 x3 r0 0 0 M ρ
      else
        if (300 : Int32) ≤ (M r0 9) then
          fX6_begin n 22 r0 x1 x2 x3 r0 0 0 M ρ
        else
          fX6_begin n 23 r0 x1 x2 x3 0 (1 : Int32) r0 M ρ
      else none
    else if pc = 22 then
      fX6_begin n 23 r0 x1 x2 x3 0 (0 : Int32) q0 M ρ
    else if pc = 23 then
      if s0 = 0 ∨ s0 = 1 then
      if ρ.2.1 q1 = 16 then
      ao_let (ao_u M q1 10 s0) fun M6 =>
      if ρ.2.1 r0 = 16 then
      if (M6 r0 10) = 0 then
        some M6
      else
        (ρ.1 r0 0).bind fun j9 =>
        if ρ.2.1 j9 = 0 then
        if ¬ ((M6 r0 9) < 0 ∨ ρ.2.2.1 j9 ≤ (M6 r0 9).toNatClampNeg) then
        ao_let (ao_u M6 j9 (M6 r0 9).toNatClampNeg x1) fun M12 =>
        (ρ.1 r0 3).bind fun j13 =>
        if ρ.2.1 j13 = 0 then
        if ¬ ((M12 r0 9) < 0 ∨ ρ.2.2.1 j13 ≤ (M12 r0 9).toNatClampNeg) then
        ao_let (ao_u M12 j13 (M12 r0 9).toNatClampNeg x2) fun M16 =>
        (ρ.1 r0 4).bind fun j17 =>
        if ρ.2.1 j17 = 0 then
        if ¬ ((M16 r0 9) < 0 ∨ ρ.2.2.1 j17 ≤ (M16 r0 9).toNatClampNeg) then
        ao_let (ao_u M16 j17 (M16 r0 9).toNatClampNeg x3) fun M20 =>
        (ρ.1 r0 1).bind fun j21 =>
        if ρ.2.1 j21 = 0 then
        if ¬ ((M20 r0 9) < 0 ∨ ρ.2.2.1 j21 ≤ (M20 r0 9).toNatClampNeg) then
        ao_let (ao_u M20 j21 (M20 r0 9).toNatClampNeg (0 : Int32)) fun M24 =>
        (ρ.1 r0 2).bind fun j25 =>
        if ρ.2.1 j25 = 0 then
        if ¬ ((M24 r0 9) < 0 ∨ ρ.2.2.1 j25 ≤ (M24 r0 9).toNatClampNeg) then
        ao_let (ao_u M24 j25 (M24 r0 9).toNatClampNeg (0 : Int32)) fun M28 =>
        ao_let (ao_u M28 r0 9 ((M28 r0 9) + (1 : Int32))) fun M29 =>
        some M29
        else none
        else none
        else none
        else none
        else none
        else none
        else none
        else none
        else none
        else none
      else none
      else none
      else none
    else none
def gX6_begin (n : Nat) (r0 : Nat) (x1 : Int32) (x2 : Int32) (x3 : Int32) (M : ao_M) (ρ : ao_H) : Option (ao_M) := fX6_begin n 0 r0 x1 x2 x3 0 0 0 M ρ
set_option maxRecDepth 100000 in
set_option maxHeartbeats 4000000 in
theorem wX6_begin {Γ : ao_C} {ρ : ao_H} (d : Nat) (hd : 0 ≤ d) : ∀ n : Nat, (∀ (r0 : Nat) (x1 : Int32) (x2 : Int32) (x3 : Int32) (M : ao_M) (y : ao_M), fX6_begin n 0 r0 x1 x2 x3 0 0 0 M ρ = some y → ao_W Γ uX6_begin (ao_rm d 0 0) (ao_Q Γ (ao_PV ρ y) 0 0) 0 0 0 [some (.ref (Γ.2.2.2 + r0)), some (.int x1), some (.int x2), some (.int x3)] [] (M, ρ)) ∧ (∀ (r0 : Nat) (x1 : Int32) (x2 : Int32) (x3 : Int32) (q0 : Nat) (M : ao_M) (y : ao_M), fX6_begin n 22 r0 x1 x2 x3 q0 0 0 M ρ = some y → ao_W Γ uX6_begin (ao_rm d 0 0) (ao_Q Γ (ao_PV ρ y) 0 0) 0 0 22 [some (.ref (Γ.2.2.2 + r0)), some (.int x1), some (.int x2), some (.int x3)] [.ref (Γ.2.2.2 + q0)] (M, ρ)) ∧ (∀ (r0 : Nat) (x1 : Int32) (x2 : Int32) (x3 : Int32) (s0 : Int32) (q1 : Nat) (M : ao_M) (y : ao_M), fX6_begin n 23 r0 x1 x2 x3 0 s0 q1 M ρ = some y → ao_W Γ uX6_begin (ao_rm d 0 0) (ao_Q Γ (ao_PV ρ y) 0 0) 0 0 23 [some (.ref (Γ.2.2.2 + r0)), some (.int x1), some (.int x2), some (.int x3)] [.int s0, .ref (Γ.2.2.2 + q1)] (M, ρ)) := by
  intro n
  induction n with
  | zero => exact ⟨fun _ _ _ _ _ _ h => ao_no h, fun _ _ _ _ _ _ _ h => ao_no h, fun _ _ _ _ _ _ _ _ h => ao_no h⟩
  | succ n ih =>
    refine ⟨?_, ?_, ?_⟩
    · intro r0 x1 x2 x3 M y h
      replace h := ao_ifT h rfl
      refine ao_aload_n 0 dX6_begin_0 rfl rfl ?_
      refine ao_aload_n 0 dX6_begin_1 rfl rfl ?_
      obtain ⟨hk1, h⟩ := ao_some h
      refine an_getI r0 6 9 (q := (RX6, TX6, 11)) dX6_begin_2 rfl hk1 (Nat.le_of_ble_eq_true rfl) rfl lf_X6_41 ?_
      refine ao_if_lt 22 dX6_begin_5 (by decide) (fun c2 => ?_) (fun c2 => ?_)
      · replace h := ao_ifT h c2
        exact ih.2.1 r0 x1 x2 x3 r0 M _ h
      · replace h := ao_ifF h c2
        refine ao_aload_n 0 dX6_begin_8 rfl rfl ?_
        refine an_getI r0 6 9 (q := (RX6, TX6, 11)) dX6_begin_9 rfl hk1 (Nat.le_of_ble_eq_true rfl) rfl lf_X6_41 ?_
        refine ao_sipush (v := 300) dX6_begin_12 (by decide) ?_
        refine ao_icmp_ge 22 dX6_begin_15 (by decide) (fun c3 => ?_) (fun c3 => ?_)
        · replace h := ao_ifT h c3
          exact ih.2.1 r0 x1 x2 x3 r0 M _ h
        · replace h := ao_ifF h c3
          refine ao_iconst (v := 1) dX6_begin_18 (by decide) ?_
          refine ao_goto 23 dX6_begin_19 (by decide) ?_
          exact ih.2.2 r0 x1 x2 x3 (1 : Int32) r0 M _ h
    · intro r0 x1 x2 x3 q0 M y h
      replace h := ao_ifF h (by decide)
      replace h := ao_ifT h rfl
      refine ao_iconst (v := 0) dX6_begin_22 (by decide) ?_
      exact ih.2.2 r0 x1 x2 x3 (0 : Int32) q0 M _ h
    · intro r0 x1 x2 x3 s0 q1 M y h
      replace h := ao_ifF h (by decide)
      replace h := ao_ifF h (by decide)
      replace h := ao_ifT h rfl
      obtain ⟨hz4, h⟩ := ao_some h
      obtain ⟨hk5, h⟩ := ao_some h
      refine an_putI q1 6 10 (q := (RX6, TX6, 11)) dX6_begin_23 rfl hk5 (Nat.le_of_ble_eq_true rfl) lf_X6_45 rfl rfl (ao_nb hz4) (ao_fb hz4) (fun M6 hM6 => ?_)
      replace h := ao_letD h hM6
      refine ao_aload_n 0 dX6_begin_26 rfl rfl ?_
      obtain ⟨hk7, h⟩ := ao_some h
      refine an_getI r0 6 10 (q := (RX6, TX6, 11)) dX6_begin_27 rfl hk7 (Nat.le_of_ble_eq_true rfl) rfl lf_X6_45 ?_
      refine ao_if_eq 93 dX6_begin_30 (by decide) (fun c8 => ?_) (fun c8 => ?_)
      · replace h := ao_ifT h c8
        cases h
        exact ao_return dX6_begin_93 rfl ⟨rfl, rfl⟩
      · replace h := ao_ifF h c8
        refine ao_aload_n 0 dX6_begin_33 rfl rfl ?_
        obtain ⟨j9, hj9, h⟩ := ao_bind h
        refine an_getR r0 6 0 (q := (RX6, TX6, 11)) dX6_begin_34 rfl hk7 (Nat.le_of_ble_eq_true rfl) rfl lf_X6_9 hj9 ?_
        refine ao_aload_n 0 dX6_begin_37 rfl rfl ?_
        refine an_getI r0 6 9 (q := (RX6, TX6, 11)) dX6_begin_38 rfl hk7 (Nat.le_of_ble_eq_true rfl) rfl lf_X6_41 ?_
        refine ao_iload_n 1 dX6_begin_41 rfl rfl ?_
        obtain ⟨hk10, h⟩ := ao_some h
        obtain ⟨hb11, h⟩ := ao_some h
        refine an_iastore j9 dX6_begin_42 hk10 hb11 (fun M12 hM12 => ?_)
        replace h := ao_letD h hM12
        refine ao_aload_n 0 dX6_begin_43 rfl rfl ?_
        obtain ⟨j13, hj13, h⟩ := ao_bind h
        refine an_getR r0 6 3 (q := (RX6, TX6, 11)) dX6_begin_44 rfl hk7 (Nat.le_of_ble_eq_true rfl) rfl lf_X6_21 hj13 ?_
        refine ao_aload_n 0 dX6_begin_47 rfl rfl ?_
        refine an_getI r0 6 9 (q := (RX6, TX6, 11)) dX6_begin_48 rfl hk7 (Nat.le_of_ble_eq_true rfl) rfl lf_X6_41 ?_
        refine ao_iload_n 2 dX6_begin_51 rfl rfl ?_
        obtain ⟨hk14, h⟩ := ao_some h
        obtain ⟨hb15, h⟩ := ao_some h
        refine an_iastore j13 dX6_begin_52 hk14 hb15 (fun M16 hM16 => ?_)
        replace h := ao_letD h hM16
        refine ao_aload_n 0 dX6_begin_53 rfl rfl ?_
        obtain ⟨j17, hj17, h⟩ := ao_bind h
        refine an_getR r0 6 4 (q := (RX6, TX6, 11)) dX6_begin_54 rfl hk7 (Nat.le_of_ble_eq_true rfl) rfl lf_X6_24 hj17 ?_
        refine ao_aload_n 0 dX6_begin_57 rfl rfl ?_
        refine an_getI r0 6 9 (q := (RX6, TX6, 11)) dX6_begin_58 rfl hk7 (Nat.le_of_ble_eq_true rfl) rfl lf_X6_41 ?_
        refine ao_iload_n 3 dX6_begin_61 rfl rfl ?_
        obtain ⟨hk18, h⟩ := ao_some h
        obtain ⟨hb19, h⟩ := ao_some h
        refine an_iastore j17 dX6_begin_62 hk18 hb19 (fun M20 hM20 => ?_)
        replace h := ao_letD h hM20
        refine ao_aload_n 0 dX6_begin_63 rfl rfl ?_
        obtain ⟨j21, hj21, h⟩ := ao_bind h
        refine an_getR r0 6 1 (q := (RX6, TX6, 11)) dX6_begin_64 rfl hk7 (Nat.le_of_ble_eq_true rfl) rfl lf_X6_15 hj21 ?_
        refine ao_aload_n 0 dX6_begin_67 rfl rfl ?_
        refine an_getI r0 6 9 (q := (RX6, TX6, 11)) dX6_begin_68 rfl hk7 (Nat.le_of_ble_eq_true rfl) rfl lf_X6_41 ?_
        refine ao_iconst (v := 0) dX6_begin_71 (by decide) ?_
        obtain ⟨hk22, h⟩ := ao_some h
        obtain ⟨hb23, h⟩ := ao_some h
        refine an_iastore j21 dX6_begin_72 hk22 hb23 (fun M24 hM24 => ?_)
        replace h := ao_letD h hM24
        refine ao_aload_n 0 dX6_begin_73 rfl rfl ?_
        obtain ⟨j25, hj25, h⟩ := ao_bind h
        refine an_getR r0 6 2 (q := (RX6, TX6, 11)) dX6_begin_74 rfl hk7 (Nat.le_of_ble_eq_true rfl) rfl lf_X6_18 hj25 ?_
        refine ao_aload_n 0 dX6_begin_77 rfl rfl ?_
        refine an_getI r0 6 9 (q := (RX6, TX6, 11)) dX6_begin_78 rfl hk7 (Nat.le_of_ble_eq_true rfl) rfl lf_X6_41 ?_
        refine ao_iconst (v := 0) dX6_begin_81 (by decide) ?_
        obtain ⟨hk26, h⟩ := ao_some h
        obtain ⟨hb27, h⟩ := ao_some h
        refine an_iastore j25 dX6_begin_82 hk26 hb27 (fun M28 hM28 => ?_)
        replace h := ao_letD h hM28
        refine ao_aload_n 0 dX6_begin_83 rfl rfl ?_
        refine ao_dup dX6_begin_84 rfl ?_
        refine an_getI r0 6 9 (q := (RX6, TX6, 11)) dX6_begin_85 rfl hk7 (Nat.le_of_ble_eq_true rfl) rfl lf_X6_41 ?_
        refine ao_iconst (v := 1) dX6_begin_88 (by decide) ?_
        refine ao_iadd dX6_begin_89 ?_
        refine an_putI r0 6 9 (q := (RX6, TX6, 11)) dX6_begin_90 rfl hk7 (Nat.le_of_ble_eq_true rfl) lf_X6_41 rfl rfl rfl rfl (fun M29 hM29 => ?_)
        replace h := ao_letD h hM29
        cases h
        exact ao_return dX6_begin_93 rfl ⟨rfl, rfl⟩
set_option maxRecDepth 100000 in
set_option maxHeartbeats 4000000 in
theorem aX6_begin {Γ : ao_C} (d : Nat) (hd : 0 ≤ d) (n : Nat) (r0 : Nat) (x1 : Int32) (x2 : Int32) (x3 : Int32) (M : ao_M) (ρ : ao_H) {y : ao_M} (h : gX6_begin n r0 x1 x2 x3 M ρ = some y) : ao_A Γ uX6_begin d 0 0 [.ref (Γ.2.2.2 + r0), .int x1, .int x2, .int x3] (M, ρ) (ao_PV ρ y) := by
  refine ao_of (by decide) (ao_cat1 (Nat.le_of_ble_eq_true rfl)) (Nat.le_of_ble_eq_true rfl) ?_
  show ao_W Γ uX6_begin (ao_rm d 0 0) (ao_Q Γ (ao_PV ρ y) 0 0) 0 0 0 [some (.ref (Γ.2.2.2 + r0)), some (.int x1), some (.int x2), some (.int x3)] [] (M, ρ)
  exact (wX6_begin d hd n).1 r0 x1 x2 x3 M y h

abbrev uX6_note : ao_Mi := (yX6_note, cX6_note, 8, none, [])
def fX6_note : Nat → Nat → Nat → Nat → Nat → Nat → Int32 → Int32 → Int32 → Int32 →  ao_M → ao_H → Option (ao_M)
  | 0, _, _, _, _, _, _, _, _, _, _, _ => none
  | n + 1, pc, r0, r1, r2, r3, x4, x5, x6, x7, M, ρ =>
    if pc = 0 then
      if ρ.2.1 r0 = 16 then
      ao_let ((M r0 9) - (1 : Int32)) fun v2 =>
      if (M r0 10) = 0 then
        some M
      else
        if v2 < 0 then
          some M
        else
          if (300 : Int32) ≤ v2 then
            some M
          else
            if ρ.2.1 r1 = 0 then
            if v2 < (nI (ρ.2.2.1 r1)) then
              if ¬ (v2 < 0 ∨ ρ.2.2.1 r1 ≤ v2.toNatClampNeg) then
              ao_let (M r1 v2.toNatClampNeg) fun v9 =>
              if (14 : Int32) ≤ v2 then
                fX6_note n 93 r0 r1 r2 r3 x4 x5 v2 v9 M ρ
              else
                if ρ.2.1 r2 = 6 then
                if (nI (ρ.2.2.1 r2)) ≤ v2 then
                  fX6_note n 93 r0 r1 r2 r3 x4 x5 v2 v9 M ρ
                else
                  if ρ.2.1 r3 = 6 then
                  if (nI (ρ.2.2.1 r3)) ≤ v2 then
                    fX6_note n 93 r0 r1 r2 r3 x4 x5 v2 v9 M ρ
                  else
                    if v9 < 0 then
                      fX6_note n 93 r0 r1 r2 r3 x4 x5 v2 v9 M ρ
                    else
                      if (26 : Int32) ≤ v9 then
                        fX6_note n 93 r0 r1 r2 r3 x4 x5 v2 v9 M ρ
                      else
                        if ¬ (v2 < 0 ∨ ρ.2.2.1 r2 ≤ v2.toNatClampNeg) then
                        (ρ.1 r2 v2.toNatClampNeg).bind fun j18 =>
                        if ρ.2.1 j18 = 0 then
                        if ¬ (v9 < 0 ∨ ρ.2.2.1 j18 ≤ v9.toNatClampNeg) then
                        ao_let (ao_u M j18 v9.toNatClampNeg x4) fun M21 =>
                        if ¬ (v2 < 0 ∨ ρ.2.2.1 r3 ≤ v2.toNatClampNeg) then
                        (ρ.1 r3 v2.toNatClampNeg).bind fun j23 =>
                        if ρ.2.1 j23 = 0 then
                        if ¬ (v9 < 0 ∨ ρ.2.2.1 j23 ≤ v9.toNatClampNeg) then
                        ao_let (ao_u M21 j23 v9.toNatClampNeg x5) fun M26 =>
                        fX6_note n 93 r0 r1 r2 r3 x4 x5 v2 v9 M26 ρ
                        else none
                        else none
                        else none
                        else none
                        else none
                        else none
                  else none
                else none
              else none
            else
              some M
            else none
      else none
    else if pc = 93 then
      if ρ.2.1 r1 = 0 then
      if ¬ (x6 < 0 ∨ ρ.2.2.1 r1 ≤ x6.toNatClampNeg) then
      ao_let (ao_u M r1 x6.toNatClampNeg (x7 + (1 : Int32))) fun M29 =>
      some M29
      else none
      else none
    else none
def gX6_note (n : Nat) (r0 : Nat) (r1 : Nat) (r2 : Nat) (r3 : Nat) (x4 : Int32) (x5 : Int32) (M : ao_M) (ρ : ao_H) : Option (ao_M) := fX6_note n 0 r0 r1 r2 r3 x4 x5 0 0 M ρ
set_option maxRecDepth 100000 in
set_option maxHeartbeats 4000000 in
theorem wX6_note {Γ : ao_C} {ρ : ao_H} (d : Nat) (hd : 0 ≤ d) : ∀ n : Nat, (∀ (r0 : Nat) (r1 : Nat) (r2 : Nat) (r3 : Nat) (x4 : Int32) (x5 : Int32) (M : ao_M) (y : ao_M), fX6_note n 0 r0 r1 r2 r3 x4 x5 0 0 M ρ = some y → ao_W Γ uX6_note (ao_rm d 0 0) (ao_Q Γ (ao_PV ρ y) 0 0) 0 0 0 [some (.ref (Γ.2.2.2 + r0)), some (.ref (Γ.2.2.2 + r1)), some (.ref (Γ.2.2.2 + r2)), some (.ref (Γ.2.2.2 + r3)), some (.int x4), some (.int x5), none, none] [] (M, ρ)) ∧ (∀ (r0 : Nat) (r1 : Nat) (r2 : Nat) (r3 : Nat) (x4 : Int32) (x5 : Int32) (x6 : Int32) (x7 : Int32) (M : ao_M) (y : ao_M), fX6_note n 93 r0 r1 r2 r3 x4 x5 x6 x7 M ρ = some y → ao_W Γ uX6_note (ao_rm d 0 0) (ao_Q Γ (ao_PV ρ y) 0 0) 0 0 93 [some (.ref (Γ.2.2.2 + r0)), some (.ref (Γ.2.2.2 + r1)), some (.ref (Γ.2.2.2 + r2)), some (.ref (Γ.2.2.2 + r3)), some (.int x4), some (.int x5), some (.int x6), some (.int x7)] [] (M, ρ)) := by
  intro n
  induction n with
  | zero => exact ⟨fun _ _ _ _ _ _ _ _ h => ao_no h, fun _ _ _ _ _ _ _ _ _ _ h => ao_no h⟩
  | succ n ih =>
    refine ⟨?_, ?_⟩
    · intro r0 r1 r2 r3 x4 x5 M y h
      replace h := ao_ifT h rfl
      refine ao_aload_n 0 dX6_note_0 rfl rfl ?_
      obtain ⟨hk1, h⟩ := ao_some h
      refine an_getI r0 6 9 (q := (RX6, TX6, 11)) dX6_note_1 rfl hk1 (Nat.le_of_ble_eq_true rfl) rfl lf_X6_41 ?_
      refine ao_iconst (v := 1) dX6_note_4 (by decide) ?_
      refine ao_isub dX6_note_5 ?_
      refine an_topi (fun v2 hv2 => ?_)
      replace h := ao_letD h hv2
      refine ao_istore 6 (lo' := [some (.ref (Γ.2.2.2 + r0)), some (.ref (Γ.2.2.2 + r1)), some (.ref (Γ.2.2.2 + r2)), some (.ref (Γ.2.2.2 + r3)), some (.int x4), some (.int x5), some (.int v2), none]) dX6_note_6 (Nat.le_of_ble_eq_true rfl) rfl ?_
      refine ao_aload_n 0 dX6_note_8 rfl rfl ?_
      refine an_getI r0 6 10 (q := (RX6, TX6, 11)) dX6_note_9 rfl hk1 (Nat.le_of_ble_eq_true rfl) rfl lf_X6_45 ?_
      refine ao_if_eq 35 dX6_note_12 (by decide) (fun c3 => ?_) (fun c3 => ?_)
      · replace h := ao_ifT h c3
        cases h
        exact ao_return dX6_note_35 rfl ⟨rfl, rfl⟩
      · replace h := ao_ifF h c3
        refine ao_iload 6 dX6_note_15 rfl ?_
        refine ao_if_lt 35 dX6_note_17 (by decide) (fun c4 => ?_) (fun c4 => ?_)
        · replace h := ao_ifT h c4
          cases h
          exact ao_return dX6_note_35 rfl ⟨rfl, rfl⟩
        · replace h := ao_ifF h c4
          refine ao_iload 6 dX6_note_20 rfl ?_
          refine ao_sipush (v := 300) dX6_note_22 (by decide) ?_
          refine ao_icmp_ge 35 dX6_note_25 (by decide) (fun c5 => ?_) (fun c5 => ?_)
          · replace h := ao_ifT h c5
            cases h
            exact ao_return dX6_note_35 rfl ⟨rfl, rfl⟩
          · replace h := ao_ifF h c5
            refine ao_iload 6 dX6_note_28 rfl ?_
            refine ao_aload_n 1 dX6_note_30 rfl rfl ?_
            obtain ⟨hk6, h⟩ := ao_some h
            refine an_alen r1 0 dX6_note_31 hk6 (by decide) ?_
            refine ao_icmp_lt 36 dX6_note_32 (by decide) (fun c7 => ?_) (fun c7 => ?_)
            · replace h := ao_ifT h c7
              refine ao_aload_n 1 dX6_note_36 rfl rfl ?_
              refine ao_iload 6 dX6_note_37 rfl ?_
              obtain ⟨hb8, h⟩ := ao_some h
              refine an_iaload r1 dX6_note_39 hk6 hb8 ?_
              refine an_topi (fun v9 hv9 => ?_)
              replace h := ao_letD h hv9
              refine ao_istore 7 (lo' := [some (.ref (Γ.2.2.2 + r0)), some (.ref (Γ.2.2.2 + r1)), some (.ref (Γ.2.2.2 + r2)), some (.ref (Γ.2.2.2 + r3)), some (.int x4), some (.int x5), some (.int v2), some (.int v9)]) dX6_note_40 (Nat.le_of_ble_eq_true rfl) rfl ?_
              refine ao_iload 6 dX6_note_42 rfl ?_
              refine ao_bipush (v := 14) dX6_note_44 (by decide) ?_
              refine ao_icmp_ge 93 dX6_note_46 (by decide) (fun c10 => ?_) (fun c10 => ?_)
              · replace h := ao_ifT h c10
                exact ih.2 r0 r1 r2 r3 x4 x5 v2 v9 M _ h
              · replace h := ao_ifF h c10
                refine ao_iload 6 dX6_note_49 rfl ?_
                refine ao_aload_n 2 dX6_note_51 rfl rfl ?_
                obtain ⟨hk11, h⟩ := ao_some h
                refine an_alen r2 6 dX6_note_52 hk11 (by decide) ?_
                refine ao_icmp_ge 93 dX6_note_53 (by decide) (fun c12 => ?_) (fun c12 => ?_)
                · replace h := ao_ifT h c12
                  exact ih.2 r0 r1 r2 r3 x4 x5 v2 v9 M _ h
                · replace h := ao_ifF h c12
                  refine ao_iload 6 dX6_note_56 rfl ?_
                  refine ao_aload_n 3 dX6_note_58 rfl rfl ?_
                  obtain ⟨hk13, h⟩ := ao_some h
                  refine an_alen r3 6 dX6_note_59 hk13 (by decide) ?_
                  refine ao_icmp_ge 93 dX6_note_60 (by decide) (fun c14 => ?_) (fun c14 => ?_)
                  · replace h := ao_ifT h c14
                    exact ih.2 r0 r1 r2 r3 x4 x5 v2 v9 M _ h
                  · replace h := ao_ifF h c14
                    refine ao_iload 7 dX6_note_63 rfl ?_
                    refine ao_if_lt 93 dX6_note_65 (by decide) (fun c15 => ?_) (fun c15 => ?_)
                    · replace h := ao_ifT h c15
                      exact ih.2 r0 r1 r2 r3 x4 x5 v2 v9 M _ h
                    · replace h := ao_ifF h c15
                      refine ao_iload 7 dX6_note_68 rfl ?_
                      refine ao_bipush (v := 26) dX6_note_70 (by decide) ?_
                      refine ao_icmp_ge 93 dX6_note_72 (by decide) (fun c16 => ?_) (fun c16 => ?_)
                      · replace h := ao_ifT h c16
                        exact ih.2 r0 r1 r2 r3 x4 x5 v2 v9 M _ h
                      · replace h := ao_ifF h c16
                        refine ao_aload_n 2 dX6_note_75 rfl rfl ?_
                        refine ao_iload 6 dX6_note_76 rfl ?_
                        obtain ⟨hb17, h⟩ := ao_some h
                        obtain ⟨j18, hj18, h⟩ := ao_bind h
                        refine an_aaload r2 6 dX6_note_78 hk11 (by decide) hb17 hj18 ?_
                        refine ao_iload 7 dX6_note_79 rfl ?_
                        refine ao_iload 4 dX6_note_81 rfl ?_
                        obtain ⟨hk19, h⟩ := ao_some h
                        obtain ⟨hb20, h⟩ := ao_some h
                        refine an_iastore j18 dX6_note_83 hk19 hb20 (fun M21 hM21 => ?_)
                        replace h := ao_letD h hM21
                        refine ao_aload_n 3 dX6_note_84 rfl rfl ?_
                        refine ao_iload 6 dX6_note_85 rfl ?_
                        obtain ⟨hb22, h⟩ := ao_some h
                        obtain ⟨j23, hj23, h⟩ := ao_bind h
                        refine an_aaload r3 6 dX6_note_87 hk13 (by decide) hb22 hj23 ?_
                        refine ao_iload 7 dX6_note_88 rfl ?_
                        refine ao_iload 5 dX6_note_90 rfl ?_
                        obtain ⟨hk24, h⟩ := ao_some h
                        obtain ⟨hb25, h⟩ := ao_some h
                        refine an_iastore j23 dX6_note_92 hk24 hb25 (fun M26 hM26 => ?_)
                        replace h := ao_letD h hM26
                        exact ih.2 r0 r1 r2 r3 x4 x5 v2 v9 M26 _ h
            · replace h := ao_ifF h c7
              cases h
              exact ao_return dX6_note_35 rfl ⟨rfl, rfl⟩
    · intro r0 r1 r2 r3 x4 x5 x6 x7 M y h
      replace h := ao_ifF h (by decide)
      replace h := ao_ifT h rfl
      refine ao_aload_n 1 dX6_note_93 rfl rfl ?_
      refine ao_iload 6 dX6_note_94 rfl ?_
      refine ao_iload 7 dX6_note_96 rfl ?_
      refine ao_iconst (v := 1) dX6_note_98 (by decide) ?_
      refine ao_iadd dX6_note_99 ?_
      obtain ⟨hk27, h⟩ := ao_some h
      obtain ⟨hb28, h⟩ := ao_some h
      refine an_iastore r1 dX6_note_100 hk27 hb28 (fun M29 hM29 => ?_)
      replace h := ao_letD h hM29
      cases h
      exact ao_return dX6_note_101 rfl ⟨rfl, rfl⟩
set_option maxRecDepth 100000 in
set_option maxHeartbeats 4000000 in
theorem aX6_note {Γ : ao_C} (d : Nat) (hd : 0 ≤ d) (n : Nat) (r0 : Nat) (r1 : Nat) (r2 : Nat) (r3 : Nat) (x4 : Int32) (x5 : Int32) (M : ao_M) (ρ : ao_H) {y : ao_M} (h : gX6_note n r0 r1 r2 r3 x4 x5 M ρ = some y) : ao_A Γ uX6_note d 0 0 [.ref (Γ.2.2.2 + r0), .ref (Γ.2.2.2 + r1), .ref (Γ.2.2.2 + r2), .ref (Γ.2.2.2 + r3), .int x4, .int x5] (M, ρ) (ao_PV ρ y) := by
  refine ao_of (by decide) (ao_cat1 (Nat.le_of_ble_eq_true rfl)) (Nat.le_of_ble_eq_true rfl) ?_
  show ao_W Γ uX6_note (ao_rm d 0 0) (ao_Q Γ (ao_PV ρ y) 0 0) 0 0 0 [some (.ref (Γ.2.2.2 + r0)), some (.ref (Γ.2.2.2 + r1)), some (.ref (Γ.2.2.2 + r2)), some (.ref (Γ.2.2.2 + r3)), some (.int x4), some (.int x5), none, none] [] (M, ρ)
  exact (wX6_note d hd n).1 r0 r1 r2 r3 x4 x5 M y h

abbrev uX6_tellOf : ao_Mi := (yX6_tellOf, cX6_tellOf, 3, (some .int), [])
def gX6_tellOf (r0 : Nat) (x1 : Int32) (x2 : Int32) (M : ao_M) (ρ : ao_H) : Option (Int32 × ao_M) :=
  if x1 < 0 then
    some ((0 : Int32), M)
  else
    if x1 < (300 : Int32) then
      if x2 = (0 : Int32) then
        if ρ.2.1 r0 = 16 then
        (ρ.1 r0 0).bind fun j5 =>
        if ρ.2.1 j5 = 0 then
        if ¬ (x1 < 0 ∨ ρ.2.2.1 j5 ≤ x1.toNatClampNeg) then
        some ((M j5 x1.toNatClampNeg), M)
        else none
        else none
        else none
      else
        if x2 = (1 : Int32) then
          if ρ.2.1 r0 = 16 then
          (ρ.1 r0 1).bind fun j10 =>
          if ρ.2.1 j10 = 0 then
          if ¬ (x1 < 0 ∨ ρ.2.2.1 j10 ≤ x1.toNatClampNeg) then
          some ((M j10 x1.toNatClampNeg), M)
          else none
          else none
          else none
        else
          if x2 = (2 : Int32) then
            if ρ.2.1 r0 = 16 then
            (ρ.1 r0 2).bind fun j15 =>
            if ρ.2.1 j15 = 0 then
            if ¬ (x1 < 0 ∨ ρ.2.2.1 j15 ≤ x1.toNatClampNeg) then
            some ((M j15 x1.toNatClampNeg), M)
            else none
            else none
            else none
          else
            if x2 = (3 : Int32) then
              if ρ.2.1 r0 = 16 then
              (ρ.1 r0 3).bind fun j20 =>
              if ρ.2.1 j20 = 0 then
              if ¬ (x1 < 0 ∨ ρ.2.2.1 j20 ≤ x1.toNatClampNeg) then
              some ((M j20 x1.toNatClampNeg), M)
              else none
              else none
              else none
            else
              if ρ.2.1 r0 = 16 then
              (ρ.1 r0 4).bind fun j24 =>
              if ρ.2.1 j24 = 0 then
              if ¬ (x1 < 0 ∨ ρ.2.2.1 j24 ≤ x1.toNatClampNeg) then
              some ((M j24 x1.toNatClampNeg), M)
              else none
              else none
              else none
    else
      some ((0 : Int32), M)
set_option maxRecDepth 100000 in
set_option maxHeartbeats 4000000 in
theorem aX6_tellOf {Γ : ao_C} (d : Nat) (hd : 0 ≤ d) (r0 : Nat) (x1 : Int32) (x2 : Int32) (M : ao_M) (ρ : ao_H) {y : Int32 × ao_M} (h : gX6_tellOf r0 x1 x2 M ρ = some y) : ao_A Γ uX6_tellOf d 0 0 [.ref (Γ.2.2.2 + r0), .int x1, .int x2] (M, ρ) (ao_PI ρ y) := by
  refine ao_of (by decide) (ao_cat1 (Nat.le_of_ble_eq_true rfl)) (Nat.le_of_ble_eq_true rfl) ?_
  show ao_W Γ uX6_tellOf (ao_rm d 0 0) (ao_Q Γ (ao_PI ρ y) 0 0) 0 0 0 [some (.ref (Γ.2.2.2 + r0)), some (.int x1), some (.int x2)] [] (M, ρ)
  unfold gX6_tellOf at h
  refine ao_iload_n 1 dX6_tellOf_0 rfl rfl ?_
  refine ao_if_lt 11 dX6_tellOf_1 (by decide) (fun c1 => ?_) (fun c1 => ?_)
  · replace h := ao_ifT h c1
    refine ao_iconst (v := 0) dX6_tellOf_11 (by decide) ?_
    cases h
    exact ao_ireturn dX6_tellOf_12 rfl rfl ⟨rfl, rfl⟩
  · replace h := ao_ifF h c1
    refine ao_iload_n 1 dX6_tellOf_4 rfl rfl ?_
    refine ao_sipush (v := 300) dX6_tellOf_5 (by decide) ?_
    refine ao_icmp_lt 13 dX6_tellOf_8 (by decide) (fun c2 => ?_) (fun c2 => ?_)
    · replace h := ao_ifT h c2
      refine ao_iload_n 2 dX6_tellOf_13 rfl rfl ?_
      by_cases c3 : x2 = (0 : Int32)
      · replace h := ao_ifT h c3
        refine ao_tableIn 44 dX6_tellOf_14 (by rw [c3]; decide) (by rw [c3]; decide) (by rw [c3]; rfl) (by decide) ?_
        refine ao_aload_n 0 dX6_tellOf_44 rfl rfl ?_
        obtain ⟨hk4, h⟩ := ao_some h
        obtain ⟨j5, hj5, h⟩ := ao_bind h
        refine an_getR r0 6 0 (q := (RX6, TX6, 11)) dX6_tellOf_45 rfl hk4 (Nat.le_of_ble_eq_true rfl) rfl lf_X6_9 hj5 ?_
        refine ao_iload_n 1 dX6_tellOf_48 rfl rfl ?_
        obtain ⟨hk6, h⟩ := ao_some h
        obtain ⟨hb7, h⟩ := ao_some h
        refine an_iaload j5 dX6_tellOf_49 hk6 hb7 ?_
        cases h
        exact ao_ireturn dX6_tellOf_50 rfl rfl ⟨rfl, rfl⟩
      · replace h := ao_ifF h c3
        by_cases c8 : x2 = (1 : Int32)
        · replace h := ao_ifT h c8
          refine ao_tableIn 51 dX6_tellOf_14 (by rw [c8]; decide) (by rw [c8]; decide) (by rw [c8]; rfl) (by decide) ?_
          refine ao_aload_n 0 dX6_tellOf_51 rfl rfl ?_
          obtain ⟨hk9, h⟩ := ao_some h
          obtain ⟨j10, hj10, h⟩ := ao_bind h
          refine an_getR r0 6 1 (q := (RX6, TX6, 11)) dX6_tellOf_52 rfl hk9 (Nat.le_of_ble_eq_true rfl) rfl lf_X6_15 hj10 ?_
          refine ao_iload_n 1 dX6_tellOf_55 rfl rfl ?_
          obtain ⟨hk11, h⟩ := ao_some h
          obtain ⟨hb12, h⟩ := ao_some h
          refine an_iaload j10 dX6_tellOf_56 hk11 hb12 ?_
          cases h
          exact ao_ireturn dX6_tellOf_57 rfl rfl ⟨rfl, rfl⟩
        · replace h := ao_ifF h c8
          by_cases c13 : x2 = (2 : Int32)
          · replace h := ao_ifT h c13
            refine ao_tableIn 58 dX6_tellOf_14 (by rw [c13]; decide) (by rw [c13]; decide) (by rw [c13]; rfl) (by decide) ?_
            refine ao_aload_n 0 dX6_tellOf_58 rfl rfl ?_
            obtain ⟨hk14, h⟩ := ao_some h
            obtain ⟨j15, hj15, h⟩ := ao_bind h
            refine an_getR r0 6 2 (q := (RX6, TX6, 11)) dX6_tellOf_59 rfl hk14 (Nat.le_of_ble_eq_true rfl) rfl lf_X6_18 hj15 ?_
            refine ao_iload_n 1 dX6_tellOf_62 rfl rfl ?_
            obtain ⟨hk16, h⟩ := ao_some h
            obtain ⟨hb17, h⟩ := ao_some h
            refine an_iaload j15 dX6_tellOf_63 hk16 hb17 ?_
            cases h
            exact ao_ireturn dX6_tellOf_64 rfl rfl ⟨rfl, rfl⟩
          · replace h := ao_ifF h c13
            by_cases c18 : x2 = (3 : Int32)
            · replace h := ao_ifT h c18
              refine ao_tableIn 65 dX6_tellOf_14 (by rw [c18]; decide) (by rw [c18]; decide) (by rw [c18]; rfl) (by decide) ?_
              refine ao_aload_n 0 dX6_tellOf_65 rfl rfl ?_
              obtain ⟨hk19, h⟩ := ao_some h
              obtain ⟨j20, hj20, h⟩ := ao_bind h
              refine an_getR r0 6 3 (q := (RX6, TX6, 11)) dX6_tellOf_66 rfl hk19 (Nat.le_of_ble_eq_true rfl) rfl lf_X6_21 hj20 ?_
              refine ao_iload_n 1 dX6_tellOf_69 rfl rfl ?_
              obtain ⟨hk21, h⟩ := ao_some h
              obtain ⟨hb22, h⟩ := ao_some h
              refine an_iaload j20 dX6_tellOf_70 hk21 hb22 ?_
              cases h
              exact ao_ireturn dX6_tellOf_71 rfl rfl ⟨rfl, rfl⟩
            · replace h := ao_ifF h c18
              refine ao_tableOut 72 dX6_tellOf_14 (by have nc3 := ao_ne (z := 0) c3 (by decide); have nc8 := ao_ne (z := 1) c8 (by decide); have nc13 := ao_ne (z := 2) c13 (by decide); have nc18 := ao_ne (z := 3) c18 (by decide); omega) (by decide) ?_
              refine ao_aload_n 0 dX6_tellOf_72 rfl rfl ?_
              obtain ⟨hk23, h⟩ := ao_some h
              obtain ⟨j24, hj24, h⟩ := ao_bind h
              refine an_getR r0 6 4 (q := (RX6, TX6, 11)) dX6_tellOf_73 rfl hk23 (Nat.le_of_ble_eq_true rfl) rfl lf_X6_24 hj24 ?_
              refine ao_iload_n 1 dX6_tellOf_76 rfl rfl ?_
              obtain ⟨hk25, h⟩ := ao_some h
              obtain ⟨hb26, h⟩ := ao_some h
              refine an_iaload j24 dX6_tellOf_77 hk25 hb26 ?_
              cases h
              exact ao_ireturn dX6_tellOf_78 rfl rfl ⟨rfl, rfl⟩
    · replace h := ao_ifF h c2
      refine ao_iconst (v := 0) dX6_tellOf_11 (by decide) ?_
      cases h
      exact ao_ireturn dX6_tellOf_12 rfl rfl ⟨rfl, rfl⟩

abbrev uX6_isAhead : ao_Mi := (yX6_isAhead, cX6_isAhead, 3, (some .boolean), [])
def gX6_isAhead (r0 : Nat) (x1 : Int32) (x2 : Int32) (M : ao_M) (ρ : ao_H) : Option (Int32 × ao_M) :=
  if x1 < 0 then
    some ((0 : Int32), M)
  else
    if (300 : Int32) ≤ x1 then
      some ((0 : Int32), M)
    else
      if x2 < 0 then
        some ((0 : Int32), M)
      else
        if (300 : Int32) ≤ x2 then
          some ((0 : Int32), M)
        else
          if ρ.2.1 r0 = 16 then
          (ρ.1 r0 4).bind fun j6 =>
          if ρ.2.1 j6 = 0 then
          if ¬ (x1 < 0 ∨ ρ.2.2.1 j6 ≤ x1.toNatClampNeg) then
          (ρ.1 r0 3).bind fun j9 =>
          if ρ.2.1 j9 = 0 then
          if ¬ (x2 < 0 ∨ ρ.2.2.1 j9 ≤ x2.toNatClampNeg) then
          if (M j9 x2.toNatClampNeg) ≤ (M j6 x1.toNatClampNeg) then
            some ((0 : Int32), M)
          else
            some ((1 : Int32), M)
          else none
          else none
          else none
          else none
          else none
set_option maxRecDepth 100000 in
set_option maxHeartbeats 4000000 in
theorem aX6_isAhead {Γ : ao_C} (d : Nat) (hd : 0 ≤ d) (r0 : Nat) (x1 : Int32) (x2 : Int32) (M : ao_M) (ρ : ao_H) {y : Int32 × ao_M} (h : gX6_isAhead r0 x1 x2 M ρ = some y) : ao_A Γ uX6_isAhead d 0 0 [.ref (Γ.2.2.2 + r0), .int x1, .int x2] (M, ρ) (ao_PI ρ y) := by
  refine ao_of (by decide) (ao_cat1 (Nat.le_of_ble_eq_true rfl)) (Nat.le_of_ble_eq_true rfl) ?_
  show ao_W Γ uX6_isAhead (ao_rm d 0 0) (ao_Q Γ (ao_PI ρ y) 0 0) 0 0 0 [some (.ref (Γ.2.2.2 + r0)), some (.int x1), some (.int x2)] [] (M, ρ)
  unfold gX6_isAhead at h
  refine ao_iload_n 1 dX6_isAhead_0 rfl rfl ?_
  refine ao_if_lt 41 dX6_isAhead_1 (by decide) (fun c1 => ?_) (fun c1 => ?_)
  · replace h := ao_ifT h c1
    refine ao_iconst (v := 0) dX6_isAhead_41 (by decide) ?_
    cases h
    exact ao_ireturn dX6_isAhead_42 rfl rfl ⟨rfl, rfl⟩
  · replace h := ao_ifF h c1
    refine ao_iload_n 1 dX6_isAhead_4 rfl rfl ?_
    refine ao_sipush (v := 300) dX6_isAhead_5 (by decide) ?_
    refine ao_icmp_ge 41 dX6_isAhead_8 (by decide) (fun c2 => ?_) (fun c2 => ?_)
    · replace h := ao_ifT h c2
      refine ao_iconst (v := 0) dX6_isAhead_41 (by decide) ?_
      cases h
      exact ao_ireturn dX6_isAhead_42 rfl rfl ⟨rfl, rfl⟩
    · replace h := ao_ifF h c2
      refine ao_iload_n 2 dX6_isAhead_11 rfl rfl ?_
      refine ao_if_lt 41 dX6_isAhead_12 (by decide) (fun c3 => ?_) (fun c3 => ?_)
      · replace h := ao_ifT h c3
        refine ao_iconst (v := 0) dX6_isAhead_41 (by decide) ?_
        cases h
        exact ao_ireturn dX6_isAhead_42 rfl rfl ⟨rfl, rfl⟩
      · replace h := ao_ifF h c3
        refine ao_iload_n 2 dX6_isAhead_15 rfl rfl ?_
        refine ao_sipush (v := 300) dX6_isAhead_16 (by decide) ?_
        refine ao_icmp_ge 41 dX6_isAhead_19 (by decide) (fun c4 => ?_) (fun c4 => ?_)
        · replace h := ao_ifT h c4
          refine ao_iconst (v := 0) dX6_isAhead_41 (by decide) ?_
          cases h
          exact ao_ireturn dX6_isAhead_42 rfl rfl ⟨rfl, rfl⟩
        · replace h := ao_ifF h c4
          refine ao_aload_n 0 dX6_isAhead_22 rfl rfl ?_
          obtain ⟨hk5, h⟩ := ao_some h
          obtain ⟨j6, hj6, h⟩ := ao_bind h
          refine an_getR r0 6 4 (q := (RX6, TX6, 11)) dX6_isAhead_23 rfl hk5 (Nat.le_of_ble_eq_true rfl) rfl lf_X6_24 hj6 ?_
          refine ao_iload_n 1 dX6_isAhead_26 rfl rfl ?_
          obtain ⟨hk7, h⟩ := ao_some h
          obtain ⟨hb8, h⟩ := ao_some h
          refine an_iaload j6 dX6_isAhead_27 hk7 hb8 ?_
          refine ao_aload_n 0 dX6_isAhead_28 rfl rfl ?_
          obtain ⟨j9, hj9, h⟩ := ao_bind h
          refine an_getR r0 6 3 (q := (RX6, TX6, 11)) dX6_isAhead_29 rfl hk5 (Nat.le_of_ble_eq_true rfl) rfl lf_X6_21 hj9 ?_
          refine ao_iload_n 2 dX6_isAhead_32 rfl rfl ?_
          obtain ⟨hk10, h⟩ := ao_some h
          obtain ⟨hb11, h⟩ := ao_some h
          refine an_iaload j9 dX6_isAhead_33 hk10 hb11 ?_
          refine ao_icmp_ge 41 dX6_isAhead_34 (by decide) (fun c12 => ?_) (fun c12 => ?_)
          · replace h := ao_ifT h c12
            refine ao_iconst (v := 0) dX6_isAhead_41 (by decide) ?_
            cases h
            exact ao_ireturn dX6_isAhead_42 rfl rfl ⟨rfl, rfl⟩
          · replace h := ao_ifF h c12
            refine ao_iconst (v := 1) dX6_isAhead_37 (by decide) ?_
            refine ao_goto 42 dX6_isAhead_38 (by decide) ?_
            cases h
            exact ao_ireturn dX6_isAhead_42 rfl rfl ⟨rfl, rfl⟩

abbrev uX6_readsAreRight : ao_Mi := (yX6_readsAreRight, cX6_readsAreRight, 5, (some .boolean), [])
def fX6_readsAreRight : Nat → Nat → Nat → Int32 → Nat → Int32 →  ao_M → ao_H → Option (Int32 × ao_M)
  | 0, _, _, _, _, _, _, _ => none
  | n + 1, pc, r0, x1, r2, x3, M, ρ =>
    if pc = 0 then
      if x1 < 0 then
        some ((0 : Int32), M)
      else
        if x1 < (14 : Int32) then
          fX6_readsAreRight n 14 r0 x1 r2 (0 : Int32) M ρ
        else
          some ((0 : Int32), M)
    else if pc = 14 then
      if ρ.2.1 r0 = 16 then
      (ρ.1 r0 1).bind fun j4 =>
      if ρ.2.1 j4 = 0 then
      if ¬ (x1 < 0 ∨ ρ.2.2.1 j4 ≤ x1.toNatClampNeg) then
      if (M j4 x1.toNatClampNeg) ≤ x3 then
        some ((1 : Int32), M)
      else
        if (26 : Int32) ≤ x3 then
          some ((1 : Int32), M)
        else
          (ρ.1 r0 5).bind fun j9 =>
          if ρ.2.1 j9 = 6 then
          if ¬ (x1 < 0 ∨ ρ.2.2.1 j9 ≤ x1.toNatClampNeg) then
          (ρ.1 j9 x1.toNatClampNeg).bind fun j12 =>
          if ρ.2.1 j12 = 0 then
          if ¬ (x3 < 0 ∨ ρ.2.2.1 j12 ≤ x3.toNatClampNeg) then
          ao_let (M j12 x3.toNatClampNeg) fun v15 =>
          if v15 < 0 then
            some ((0 : Int32), M)
          else
            if ρ.2.1 r2 = 0 then
            if (nI (ρ.2.2.1 r2)) ≤ v15 then
              some ((0 : Int32), M)
            else
              if ¬ (v15 < 0 ∨ ρ.2.2.1 r2 ≤ v15.toNatClampNeg) then
              (ρ.1 r0 6).bind fun j20 =>
              if ρ.2.1 j20 = 6 then
              if ¬ (x1 < 0 ∨ ρ.2.2.1 j20 ≤ x1.toNatClampNeg) then
              (ρ.1 j20 x1.toNatClampNeg).bind fun j23 =>
              if ρ.2.1 j23 = 0 then
              if ¬ (x3 < 0 ∨ ρ.2.2.1 j23 ≤ x3.toNatClampNeg) then
              if (M r2 v15.toNatClampNeg) = (M j23 x3.toNatClampNeg) then
                ao_let (x3 + (1 : Int32)) fun v27 =>
                fX6_readsAreRight n 14 r0 x1 r2 v27 M ρ
              else
                some ((0 : Int32), M)
              else none
              else none
              else none
              else none
              else none
            else none
          else none
          else none
          else none
          else none
      else none
      else none
      else none
    else none
def gX6_readsAreRight (n : Nat) (r0 : Nat) (x1 : Int32) (r2 : Nat) (M : ao_M) (ρ : ao_H) : Option (Int32 × ao_M) := fX6_readsAreRight n 0 r0 x1 r2 0 M ρ
set_option maxRecDepth 100000 in
set_option maxHeartbeats 4000000 in
theorem wX6_readsAreRight {Γ : ao_C} {ρ : ao_H} (d : Nat) (hd : 0 ≤ d) : ∀ n : Nat, (∀ (r0 : Nat) (x1 : Int32) (r2 : Nat) (M : ao_M) (y : Int32 × ao_M), fX6_readsAreRight n 0 r0 x1 r2 0 M ρ = some y → ao_W Γ uX6_readsAreRight (ao_rm d 0 0) (ao_Q Γ (ao_PI ρ y) 0 0) 0 0 0 [some (.ref (Γ.2.2.2 + r0)), some (.int x1), some (.ref (Γ.2.2.2 + r2)), none, none] [] (M, ρ)) ∧ (∀ (r0 : Nat) (x1 : Int32) (r2 : Nat) (x3 : Int32) (M : ao_M) (y : Int32 × ao_M), fX6_readsAreRight n 14 r0 x1 r2 x3 M ρ = some y → ao_W Γ uX6_readsAreRight (ao_rm d 0 0) (ao_Q Γ (ao_PI ρ y) 0 0) 0 0 14 [some (.ref (Γ.2.2.2 + r0)), some (.int x1), some (.ref (Γ.2.2.2 + r2)), some (.int x3), none] [] (M, ρ)) := by
  intro n
  induction n with
  | zero => exact ⟨fun _ _ _ _ _ h => ao_no h, fun _ _ _ _ _ _ h => ao_no h⟩
  | succ n ih =>
    refine ⟨?_, ?_⟩
    · intro r0 x1 r2 M y h
      replace h := ao_ifT h rfl
      refine ao_iload_n 1 dX6_readsAreRight_0 rfl rfl ?_
      refine ao_if_lt 10 dX6_readsAreRight_1 (by decide) (fun c1 => ?_) (fun c1 => ?_)
      · replace h := ao_ifT h c1
        refine ao_iconst (v := 0) dX6_readsAreRight_10 (by decide) ?_
        cases h
        exact ao_ireturn dX6_readsAreRight_11 rfl rfl ⟨rfl, rfl⟩
      · replace h := ao_ifF h c1
        refine ao_iload_n 1 dX6_readsAreRight_4 rfl rfl ?_
        refine ao_bipush (v := 14) dX6_readsAreRight_5 (by decide) ?_
        refine ao_icmp_lt 12 dX6_readsAreRight_7 (by decide) (fun c2 => ?_) (fun c2 => ?_)
        · replace h := ao_ifT h c2
          refine ao_iconst (v := 0) dX6_readsAreRight_12 (by decide) ?_
          refine ao_istore_n 3 (lo' := [some (.ref (Γ.2.2.2 + r0)), some (.int x1), some (.ref (Γ.2.2.2 + r2)), some (.int (0 : Int32)), none]) dX6_readsAreRight_13 rfl (Nat.le_of_ble_eq_true rfl) rfl ?_
          exact ih.2 r0 x1 r2 (0 : Int32) M _ h
        · replace h := ao_ifF h c2
          refine ao_iconst (v := 0) dX6_readsAreRight_10 (by decide) ?_
          cases h
          exact ao_ireturn dX6_readsAreRight_11 rfl rfl ⟨rfl, rfl⟩
    · intro r0 x1 r2 x3 M y h
      replace h := ao_ifF h (by decide)
      replace h := ao_ifT h rfl
      refine ao_iload_n 3 dX6_readsAreRight_14 rfl rfl ?_
      refine ao_aload_n 0 dX6_readsAreRight_15 rfl rfl ?_
      obtain ⟨hk3, h⟩ := ao_some h
      obtain ⟨j4, hj4, h⟩ := ao_bind h
      refine an_getR r0 6 1 (q := (RX6, TX6, 11)) dX6_readsAreRight_16 rfl hk3 (Nat.le_of_ble_eq_true rfl) rfl lf_X6_15 hj4 ?_
      refine ao_iload_n 1 dX6_readsAreRight_19 rfl rfl ?_
      obtain ⟨hk5, h⟩ := ao_some h
      obtain ⟨hb6, h⟩ := ao_some h
      refine an_iaload j4 dX6_readsAreRight_20 hk5 hb6 ?_
      refine ao_icmp_ge 75 dX6_readsAreRight_21 (by decide) (fun c7 => ?_) (fun c7 => ?_)
      · replace h := ao_ifT h c7
        refine ao_iconst (v := 1) dX6_readsAreRight_75 (by decide) ?_
        cases h
        exact ao_ireturn dX6_readsAreRight_76 rfl rfl ⟨rfl, rfl⟩
      · replace h := ao_ifF h c7
        refine ao_iload_n 3 dX6_readsAreRight_24 rfl rfl ?_
        refine ao_bipush (v := 26) dX6_readsAreRight_25 (by decide) ?_
        refine ao_icmp_ge 75 dX6_readsAreRight_27 (by decide) (fun c8 => ?_) (fun c8 => ?_)
        · replace h := ao_ifT h c8
          refine ao_iconst (v := 1) dX6_readsAreRight_75 (by decide) ?_
          cases h
          exact ao_ireturn dX6_readsAreRight_76 rfl rfl ⟨rfl, rfl⟩
        · replace h := ao_ifF h c8
          refine ao_aload_n 0 dX6_readsAreRight_30 rfl rfl ?_
          obtain ⟨j9, hj9, h⟩ := ao_bind h
          refine an_getR r0 6 5 (q := (RX6, TX6, 11)) dX6_readsAreRight_31 rfl hk3 (Nat.le_of_ble_eq_true rfl) rfl lf_X6_29 hj9 ?_
          refine ao_iload_n 1 dX6_readsAreRight_34 rfl rfl ?_
          obtain ⟨hk10, h⟩ := ao_some h
          obtain ⟨hb11, h⟩ := ao_some h
          obtain ⟨j12, hj12, h⟩ := ao_bind h
          refine an_aaload j9 6 dX6_readsAreRight_35 hk10 (by decide) hb11 hj12 ?_
          refine ao_iload_n 3 dX6_readsAreRight_36 rfl rfl ?_
          obtain ⟨hk13, h⟩ := ao_some h
          obtain ⟨hb14, h⟩ := ao_some h
          refine an_iaload j12 dX6_readsAreRight_37 hk13 hb14 ?_
          refine an_topi (fun v15 hv15 => ?_)
          replace h := ao_letD h hv15
          refine ao_istore 4 (lo' := [some (.ref (Γ.2.2.2 + r0)), some (.int x1), some (.ref (Γ.2.2.2 + r2)), some (.int x3), some (.int v15)]) dX6_readsAreRight_38 (Nat.le_of_ble_eq_true rfl) rfl ?_
          refine ao_iload 4 dX6_readsAreRight_40 rfl ?_
          refine ao_if_lt 67 dX6_readsAreRight_42 (by decide) (fun c16 => ?_) (fun c16 => ?_)
          · replace h := ao_ifT h c16
            refine ao_iconst (v := 0) dX6_readsAreRight_67 (by decide) ?_
            cases h
            exact ao_ireturn dX6_readsAreRight_68 rfl rfl ⟨rfl, rfl⟩
          · replace h := ao_ifF h c16
            refine ao_iload 4 dX6_readsAreRight_45 rfl ?_
            refine ao_aload_n 2 dX6_readsAreRight_47 rfl rfl ?_
            obtain ⟨hk17, h⟩ := ao_some h
            refine an_alen r2 0 dX6_readsAreRight_48 hk17 (by decide) ?_
            refine ao_icmp_ge 67 dX6_readsAreRight_49 (by decide) (fun c18 => ?_) (fun c18 => ?_)
            · replace h := ao_ifT h c18
              refine ao_iconst (v := 0) dX6_readsAreRight_67 (by decide) ?_
              cases h
              exact ao_ireturn dX6_readsAreRight_68 rfl rfl ⟨rfl, rfl⟩
            · replace h := ao_ifF h c18
              refine ao_aload_n 2 dX6_readsAreRight_52 rfl rfl ?_
              refine ao_iload 4 dX6_readsAreRight_53 rfl ?_
              obtain ⟨hb19, h⟩ := ao_some h
              refine an_iaload r2 dX6_readsAreRight_55 hk17 hb19 ?_
              refine ao_aload_n 0 dX6_readsAreRight_56 rfl rfl ?_
              obtain ⟨j20, hj20, h⟩ := ao_bind h
              refine an_getR r0 6 6 (q := (RX6, TX6, 11)) dX6_readsAreRight_57 rfl hk3 (Nat.le_of_ble_eq_true rfl) rfl lf_X6_32 hj20 ?_
              refine ao_iload_n 1 dX6_readsAreRight_60 rfl rfl ?_
              obtain ⟨hk21, h⟩ := ao_some h
              obtain ⟨hb22, h⟩ := ao_some h
              obtain ⟨j23, hj23, h⟩ := ao_bind h
              refine an_aaload j20 6 dX6_readsAreRight_61 hk21 (by decide) hb22 hj23 ?_
              refine ao_iload_n 3 dX6_readsAreRight_62 rfl rfl ?_
              obtain ⟨hk24, h⟩ := ao_some h
              obtain ⟨hb25, h⟩ := ao_some h
              refine an_iaload j23 dX6_readsAreRight_63 hk24 hb25 ?_
              refine ao_icmp_eq 69 dX6_readsAreRight_64 (by decide) (fun c26 => ?_) (fun c26 => ?_)
              · replace h := ao_ifT h c26
                obtain ⟨v27, hv27⟩ : ∃ z : Int32, z = x3 + (1 : Int32) := ⟨_, rfl⟩
                replace h := ao_letD h hv27
                refine ao_iinc 3 (v := v27) (lo' := [some (.ref (Γ.2.2.2 + r0)), some (.int x1), some (.ref (Γ.2.2.2 + r2)), some (.int v27), some (.int v15)]) dX6_readsAreRight_69 rfl (by rw [hv27]; rfl) (Nat.le_of_ble_eq_true rfl) rfl ?_
                refine ao_goto 14 dX6_readsAreRight_72 (by decide) ?_
                refine ao_loForget (lo' := [some (.ref (Γ.2.2.2 + r0)), some (.int x1), some (.ref (Γ.2.2.2 + r2)), some (.int v27), none]) (ao_fgS (ao_fgS (ao_fgS (ao_fgS (ao_fgN ao_fgZ))))) ?_
                exact ih.2 r0 x1 r2 v27 M _ h
              · replace h := ao_ifF h c26
                refine ao_iconst (v := 0) dX6_readsAreRight_67 (by decide) ?_
                cases h
                exact ao_ireturn dX6_readsAreRight_68 rfl rfl ⟨rfl, rfl⟩
set_option maxRecDepth 100000 in
set_option maxHeartbeats 4000000 in
theorem aX6_readsAreRight {Γ : ao_C} (d : Nat) (hd : 0 ≤ d) (n : Nat) (r0 : Nat) (x1 : Int32) (r2 : Nat) (M : ao_M) (ρ : ao_H) {y : Int32 × ao_M} (h : gX6_readsAreRight n r0 x1 r2 M ρ = some y) : ao_A Γ uX6_readsAreRight d 0 0 [.ref (Γ.2.2.2 + r0), .int x1, .ref (Γ.2.2.2 + r2)] (M, ρ) (ao_PI ρ y) := by
  refine ao_of (by decide) (ao_cat1 (Nat.le_of_ble_eq_true rfl)) (Nat.le_of_ble_eq_true rfl) ?_
  show ao_W Γ uX6_readsAreRight (ao_rm d 0 0) (ao_Q Γ (ao_PI ρ y) 0 0) 0 0 0 [some (.ref (Γ.2.2.2 + r0)), some (.int x1), some (.ref (Γ.2.2.2 + r2)), none, none] [] (M, ρ)
  exact (wX6_readsAreRight d hd n).1 r0 x1 r2 M y h

abbrev uX6_apply : ao_Mi := (yX6_apply, cX6_apply, 5, none, [])
def fX6_apply : Nat → Nat → Nat → Int32 → Nat → Int32 → Int32 →  ao_M → ao_H → Option (ao_M)
  | 0, _, _, _, _, _, _, _, _ => none
  | n + 1, pc, r0, x1, r2, x3, x4, M, ρ =>
    if pc = 0 then
      if x1 < 0 then
        some M
      else
        if x1 < (14 : Int32) then
          fX6_apply n 13 r0 x1 r2 (0 : Int32) 0 M ρ
        else
          some M
    else if pc = 13 then
      if ρ.2.1 r0 = 16 then
      (ρ.1 r0 2).bind fun j4 =>
      if ρ.2.1 j4 = 0 then
      if ¬ (x1 < 0 ∨ ρ.2.2.1 j4 ≤ x1.toNatClampNeg) then
      if (M j4 x1.toNatClampNeg) ≤ x3 then
        some M
      else
        if (26 : Int32) ≤ x3 then
          some M
        else
          (ρ.1 r0 7).bind fun j9 =>
          if ρ.2.1 j9 = 6 then
          if ¬ (x1 < 0 ∨ ρ.2.2.1 j9 ≤ x1.toNatClampNeg) then
          (ρ.1 j9 x1.toNatClampNeg).bind fun j12 =>
          if ρ.2.1 j12 = 0 then
          if ¬ (x3 < 0 ∨ ρ.2.2.1 j12 ≤ x3.toNatClampNeg) then
          ao_let (M j12 x3.toNatClampNeg) fun v15 =>
          if v15 < 0 then
            fX6_apply n 63 r0 x1 r2 x3 v15 M ρ
          else
            if ρ.2.1 r2 = 0 then
            if (nI (ρ.2.2.1 r2)) ≤ v15 then
              fX6_apply n 63 r0 x1 r2 x3 v15 M ρ
            else
              (ρ.1 r0 8).bind fun j19 =>
              if ρ.2.1 j19 = 6 then
              if ¬ (x1 < 0 ∨ ρ.2.2.1 j19 ≤ x1.toNatClampNeg) then
              (ρ.1 j19 x1.toNatClampNeg).bind fun j22 =>
              if ρ.2.1 j22 = 0 then
              if ¬ (x3 < 0 ∨ ρ.2.2.1 j22 ≤ x3.toNatClampNeg) then
              if ¬ (v15 < 0 ∨ ρ.2.2.1 r2 ≤ v15.toNatClampNeg) then
              ao_let (ao_u M r2 v15.toNatClampNeg (M j22 x3.toNatClampNeg)) fun M26 =>
              fX6_apply n 63 r0 x1 r2 x3 v15 M26 ρ
              else none
              else none
              else none
              else none
              else none
            else none
          else none
          else none
          else none
          else none
      else none
      else none
      else none
    else if pc = 63 then
      ao_let (x3 + (1 : Int32)) fun v27 =>
      fX6_apply n 13 r0 x1 r2 v27 0 M ρ
    else none
def gX6_apply (n : Nat) (r0 : Nat) (x1 : Int32) (r2 : Nat) (M : ao_M) (ρ : ao_H) : Option (ao_M) := fX6_apply n 0 r0 x1 r2 0 0 M ρ
set_option maxRecDepth 100000 in
set_option maxHeartbeats 4000000 in
theorem wX6_apply {Γ : ao_C} {ρ : ao_H} (d : Nat) (hd : 0 ≤ d) : ∀ n : Nat, (∀ (r0 : Nat) (x1 : Int32) (r2 : Nat) (M : ao_M) (y : ao_M), fX6_apply n 0 r0 x1 r2 0 0 M ρ = some y → ao_W Γ uX6_apply (ao_rm d 0 0) (ao_Q Γ (ao_PV ρ y) 0 0) 0 0 0 [some (.ref (Γ.2.2.2 + r0)), some (.int x1), some (.ref (Γ.2.2.2 + r2)), none, none] [] (M, ρ)) ∧ (∀ (r0 : Nat) (x1 : Int32) (r2 : Nat) (x3 : Int32) (M : ao_M) (y : ao_M), fX6_apply n 13 r0 x1 r2 x3 0 M ρ = some y → ao_W Γ uX6_apply (ao_rm d 0 0) (ao_Q Γ (ao_PV ρ y) 0 0) 0 0 13 [some (.ref (Γ.2.2.2 + r0)), some (.int x1), some (.ref (Γ.2.2.2 + r2)), some (.int x3), none] [] (M, ρ)) ∧ (∀ (r0 : Nat) (x1 : Int32) (r2 : Nat) (x3 : Int32) (x4 : Int32) (M : ao_M) (y : ao_M), fX6_apply n 63 r0 x1 r2 x3 x4 M ρ = some y → ao_W Γ uX6_apply (ao_rm d 0 0) (ao_Q Γ (ao_PV ρ y) 0 0) 0 0 63 [some (.ref (Γ.2.2.2 + r0)), some (.int x1), some (.ref (Γ.2.2.2 + r2)), some (.int x3), some (.int x4)] [] (M, ρ)) := by
  intro n
  induction n with
  | zero => exact ⟨fun _ _ _ _ _ h => ao_no h, fun _ _ _ _ _ _ h => ao_no h, fun _ _ _ _ _ _ _ h => ao_no h⟩
  | succ n ih =>
    refine ⟨?_, ?_, ?_⟩
    · intro r0 x1 r2 M y h
      replace h := ao_ifT h rfl
      refine ao_iload_n 1 dX6_apply_0 rfl rfl ?_
      refine ao_if_lt 10 dX6_apply_1 (by decide) (fun c1 => ?_) (fun c1 => ?_)
      · replace h := ao_ifT h c1
        cases h
        exact ao_return dX6_apply_10 rfl ⟨rfl, rfl⟩
      · replace h := ao_ifF h c1
        refine ao_iload_n 1 dX6_apply_4 rfl rfl ?_
        refine ao_bipush (v := 14) dX6_apply_5 (by decide) ?_
        refine ao_icmp_lt 11 dX6_apply_7 (by decide) (fun c2 => ?_) (fun c2 => ?_)
        · replace h := ao_ifT h c2
          refine ao_iconst (v := 0) dX6_apply_11 (by decide) ?_
          refine ao_istore_n 3 (lo' := [some (.ref (Γ.2.2.2 + r0)), some (.int x1), some (.ref (Γ.2.2.2 + r2)), some (.int (0 : Int32)), none]) dX6_apply_12 rfl (Nat.le_of_ble_eq_true rfl) rfl ?_
          exact ih.2.1 r0 x1 r2 (0 : Int32) M _ h
        · replace h := ao_ifF h c2
          cases h
          exact ao_return dX6_apply_10 rfl ⟨rfl, rfl⟩
    · intro r0 x1 r2 x3 M y h
      replace h := ao_ifF h (by decide)
      replace h := ao_ifT h rfl
      refine ao_iload_n 3 dX6_apply_13 rfl rfl ?_
      refine ao_aload_n 0 dX6_apply_14 rfl rfl ?_
      obtain ⟨hk3, h⟩ := ao_some h
      obtain ⟨j4, hj4, h⟩ := ao_bind h
      refine an_getR r0 6 2 (q := (RX6, TX6, 11)) dX6_apply_15 rfl hk3 (Nat.le_of_ble_eq_true rfl) rfl lf_X6_18 hj4 ?_
      refine ao_iload_n 1 dX6_apply_18 rfl rfl ?_
      obtain ⟨hk5, h⟩ := ao_some h
      obtain ⟨hb6, h⟩ := ao_some h
      refine an_iaload j4 dX6_apply_19 hk5 hb6 ?_
      refine ao_icmp_ge 69 dX6_apply_20 (by decide) (fun c7 => ?_) (fun c7 => ?_)
      · replace h := ao_ifT h c7
        cases h
        exact ao_return dX6_apply_69 rfl ⟨rfl, rfl⟩
      · replace h := ao_ifF h c7
        refine ao_iload_n 3 dX6_apply_23 rfl rfl ?_
        refine ao_bipush (v := 26) dX6_apply_24 (by decide) ?_
        refine ao_icmp_ge 69 dX6_apply_26 (by decide) (fun c8 => ?_) (fun c8 => ?_)
        · replace h := ao_ifT h c8
          cases h
          exact ao_return dX6_apply_69 rfl ⟨rfl, rfl⟩
        · replace h := ao_ifF h c8
          refine ao_aload_n 0 dX6_apply_29 rfl rfl ?_
          obtain ⟨j9, hj9, h⟩ := ao_bind h
          refine an_getR r0 6 7 (q := (RX6, TX6, 11)) dX6_apply_30 rfl hk3 (Nat.le_of_ble_eq_true rfl) rfl lf_X6_35 hj9 ?_
          refine ao_iload_n 1 dX6_apply_33 rfl rfl ?_
          obtain ⟨hk10, h⟩ := ao_some h
          obtain ⟨hb11, h⟩ := ao_some h
          obtain ⟨j12, hj12, h⟩ := ao_bind h
          refine an_aaload j9 6 dX6_apply_34 hk10 (by decide) hb11 hj12 ?_
          refine ao_iload_n 3 dX6_apply_35 rfl rfl ?_
          obtain ⟨hk13, h⟩ := ao_some h
          obtain ⟨hb14, h⟩ := ao_some h
          refine an_iaload j12 dX6_apply_36 hk13 hb14 ?_
          refine an_topi (fun v15 hv15 => ?_)
          replace h := ao_letD h hv15
          refine ao_istore 4 (lo' := [some (.ref (Γ.2.2.2 + r0)), some (.int x1), some (.ref (Γ.2.2.2 + r2)), some (.int x3), some (.int v15)]) dX6_apply_37 (Nat.le_of_ble_eq_true rfl) rfl ?_
          refine ao_iload 4 dX6_apply_39 rfl ?_
          refine ao_if_lt 63 dX6_apply_41 (by decide) (fun c16 => ?_) (fun c16 => ?_)
          · replace h := ao_ifT h c16
            exact ih.2.2 r0 x1 r2 x3 v15 M _ h
          · replace h := ao_ifF h c16
            refine ao_iload 4 dX6_apply_44 rfl ?_
            refine ao_aload_n 2 dX6_apply_46 rfl rfl ?_
            obtain ⟨hk17, h⟩ := ao_some h
            refine an_alen r2 0 dX6_apply_47 hk17 (by decide) ?_
            refine ao_icmp_ge 63 dX6_apply_48 (by decide) (fun c18 => ?_) (fun c18 => ?_)
            · replace h := ao_ifT h c18
              exact ih.2.2 r0 x1 r2 x3 v15 M _ h
            · replace h := ao_ifF h c18
              refine ao_aload_n 2 dX6_apply_51 rfl rfl ?_
              refine ao_iload 4 dX6_apply_52 rfl ?_
              refine ao_aload_n 0 dX6_apply_54 rfl rfl ?_
              obtain ⟨j19, hj19, h⟩ := ao_bind h
              refine an_getR r0 6 8 (q := (RX6, TX6, 11)) dX6_apply_55 rfl hk3 (Nat.le_of_ble_eq_true rfl) rfl lf_X6_38 hj19 ?_
              refine ao_iload_n 1 dX6_apply_58 rfl rfl ?_
              obtain ⟨hk20, h⟩ := ao_some h
              obtain ⟨hb21, h⟩ := ao_some h
              obtain ⟨j22, hj22, h⟩ := ao_bind h
              refine an_aaload j19 6 dX6_apply_59 hk20 (by decide) hb21 hj22 ?_
              refine ao_iload_n 3 dX6_apply_60 rfl rfl ?_
              obtain ⟨hk23, h⟩ := ao_some h
              obtain ⟨hb24, h⟩ := ao_some h
              refine an_iaload j22 dX6_apply_61 hk23 hb24 ?_
              obtain ⟨hb25, h⟩ := ao_some h
              refine an_iastore r2 dX6_apply_62 hk17 hb25 (fun M26 hM26 => ?_)
              replace h := ao_letD h hM26
              exact ih.2.2 r0 x1 r2 x3 v15 M26 _ h
    · intro r0 x1 r2 x3 x4 M y h
      replace h := ao_ifF h (by decide)
      replace h := ao_ifF h (by decide)
      replace h := ao_ifT h rfl
      obtain ⟨v27, hv27⟩ : ∃ z : Int32, z = x3 + (1 : Int32) := ⟨_, rfl⟩
      replace h := ao_letD h hv27
      refine ao_iinc 3 (v := v27) (lo' := [some (.ref (Γ.2.2.2 + r0)), some (.int x1), some (.ref (Γ.2.2.2 + r2)), some (.int v27), some (.int x4)]) dX6_apply_63 rfl (by rw [hv27]; rfl) (Nat.le_of_ble_eq_true rfl) rfl ?_
      refine ao_goto 13 dX6_apply_66 (by decide) ?_
      refine ao_loForget (lo' := [some (.ref (Γ.2.2.2 + r0)), some (.int x1), some (.ref (Γ.2.2.2 + r2)), some (.int v27), none]) (ao_fgS (ao_fgS (ao_fgS (ao_fgS (ao_fgN ao_fgZ))))) ?_
      exact ih.2.1 r0 x1 r2 v27 M _ h
set_option maxRecDepth 100000 in
set_option maxHeartbeats 4000000 in
theorem aX6_apply {Γ : ao_C} (d : Nat) (hd : 0 ≤ d) (n : Nat) (r0 : Nat) (x1 : Int32) (r2 : Nat) (M : ao_M) (ρ : ao_H) {y : ao_M} (h : gX6_apply n r0 x1 r2 M ρ = some y) : ao_A Γ uX6_apply d 0 0 [.ref (Γ.2.2.2 + r0), .int x1, .ref (Γ.2.2.2 + r2)] (M, ρ) (ao_PV ρ y) := by
  refine ao_of (by decide) (ao_cat1 (Nat.le_of_ble_eq_true rfl)) (Nat.le_of_ble_eq_true rfl) ?_
  show ao_W Γ uX6_apply (ao_rm d 0 0) (ao_Q Γ (ao_PV ρ y) 0 0) 0 0 0 [some (.ref (Γ.2.2.2 + r0)), some (.int x1), some (.ref (Γ.2.2.2 + r2)), none, none] [] (M, ρ)
  exact (wX6_apply d hd n).1 r0 x1 r2 M y h

abbrev uX7_init : ao_Mi := (yX7_init, cX7_init, 3, none, [])
def fX7_init : Nat → Nat → Nat → Int32 → Int32 → Nat → Nat → Int32 → Nat →  ao_M → ao_H → Option (ao_S)
  | 0, _, _, _, _, _, _, _, _, _, _ => none
  | n + 1, pc, r0, x1, x2, q0, q1, s1, q2, M, ρ =>
    if pc = 0 then
      if ρ.2.1 r0 = 17 then
      ao_let (ao_u M r0 0 x1) fun M2 =>
      (ρ.2.2.2.1).bind fun n3 =>
      fX7_init n 13 r0 x1 0 n3 r0 0 0 (ao_zr M2 n3) (ao_nw ρ n3 11 0 6)
      else none
    else if pc = 13 then
      (gX1_init n q0 (0 : Int32) M ρ).bind fun p4 =>
      fX7_init n 18 r0 x1 0 q0 q1 0 0 p4.1 p4.2
    else if pc = 18 then
      if ρ.2.1 q1 = 17 then
      fX7_init n 21 r0 x1 0 0 0 0 0 M (ao_r ρ q1 1 (some q0))
      else none
    else if pc = 21 then
      if ρ.2.1 r0 = 17 then
      ao_let (ao_u M r0 2 (0 : Int32)) fun M7 =>
      (ρ.2.2.2.1).bind fun n8 =>
      if ¬ (64 : Int32) < 0 ∧ (64 : Int32).toNatClampNeg * 8 ≤ 536870912 then
      fX7_init n 31 r0 x1 0 n8 r0 0 0 (ao_zr M7 n8) (ao_nw ρ n8 0 (64 : Int32).toNatClampNeg (64 : Int32).toNatClampNeg)
      else none
      else none
    else if pc = 31 then
      if ρ.2.1 q1 = 17 then
      fX7_init n 34 r0 x1 0 0 0 0 0 M (ao_r ρ q1 4 (some q0))
      else none
    else if pc = 34 then
      (ρ.2.2.2.1).bind fun n11 =>
      if ¬ (26 : Int32) < 0 ∧ (26 : Int32).toNatClampNeg * 8 ≤ 536870912 then
      fX7_init n 39 r0 x1 0 n11 r0 0 0 (ao_zr M n11) (ao_nw ρ n11 0 (26 : Int32).toNatClampNeg (26 : Int32).toNatClampNeg)
      else none
    else if pc = 39 then
      if ρ.2.1 q1 = 17 then
      fX7_init n 42 r0 x1 0 0 0 0 0 M (ao_r ρ q1 6 (some q0))
      else none
    else if pc = 42 then
      (ρ.2.2.2.1).bind fun n14 =>
      if ¬ (10 : Int32) < 0 ∧ (10 : Int32).toNatClampNeg * 8 ≤ 536870912 then
      fX7_init n 48 r0 x1 0 n14 r0 0 0 (ao_zr M n14) (ao_nw ρ n14 5 (10 : Int32).toNatClampNeg (10 : Int32).toNatClampNeg)
      else none
    else if pc = 48 then
      if ρ.2.1 q1 = 17 then
      fX7_init n 51 r0 x1 0 0 0 0 0 M (ao_r ρ q1 7 (some q0))
      else none
    else if pc = 51 then
      fX7_init n 53 r0 x1 (0 : Int32) 0 0 0 0 M ρ
    else if pc = 53 then
      if (10 : Int32) ≤ x2 then
        (ρ.2.2.2.1).bind fun n18 =>
        if ¬ (10 : Int32) < 0 ∧ (10 : Int32).toNatClampNeg * 8 ≤ 536870912 then
        fX7_init n 83 r0 x1 x2 n18 r0 0 0 (ao_zr M n18) (ao_nw ρ n18 0 (10 : Int32).toNatClampNeg (10 : Int32).toNatClampNeg)
        else none
      else
        if ρ.2.1 r0 = 17 then
        (ρ.1 r0 7).bind fun j21 =>
        (ρ.2.2.2.1).bind fun n22 =>
        fX7_init n 67 r0 x1 x2 n22 0 x2 j21 (ao_zr M n22) (ao_nw ρ n22 13 0 12)
        else none
    else if pc = 67 then
      (gX3_init n q0 M ρ).bind fun p23 =>
      fX7_init n 71 r0 x1 x2 q0 0 s1 q2 p23.1 p23.2
    else if pc = 71 then
      if ρ.2.1 q2 = 5 then
      if ρ.2.1 q0 = 13 then
      if ¬ (s1 < 0 ∨ ρ.2.2.1 q2 ≤ s1.toNatClampNeg) then
      fX7_init n 72 r0 x1 x2 0 0 0 0 M (ao_r ρ q2 s1.toNatClampNeg (some q0))
      else none
      else none
      else none
    else if pc = 72 then
      ao_let (x2 + (1 : Int32)) fun v27 =>
      fX7_init n 53 r0 x1 v27 0 0 0 0 M ρ
    else if pc = 83 then
      if ρ.2.1 q1 = 17 then
      fX7_init n 86 r0 x1 x2 0 0 0 0 M (ao_r ρ q1 9 (some q0))
      else none
    else if pc = 86 then
      (ρ.2.2.2.1).bind fun n29 =>
      if ¬ (10 : Int32) < 0 ∧ (10 : Int32).toNatClampNeg * 8 ≤ 536870912 then
      fX7_init n 91 r0 x1 x2 n29 r0 0 0 (ao_zr M n29) (ao_nw ρ n29 0 (10 : Int32).toNatClampNeg (10 : Int32).toNatClampNeg)
      else none
    else if pc = 91 then
      if ρ.2.1 q1 = 17 then
      fX7_init n 94 r0 x1 x2 0 0 0 0 M (ao_r ρ q1 10 (some q0))
      else none
    else if pc = 94 then
      (ρ.2.2.2.1).bind fun n32 =>
      if ¬ (200 : Int32) < 0 ∧ (200 : Int32).toNatClampNeg * 8 ≤ 536870912 then
      fX7_init n 100 r0 x1 x2 n32 r0 0 0 (ao_zr M n32) (ao_nw ρ n32 0 (200 : Int32).toNatClampNeg (200 : Int32).toNatClampNeg)
      else none
    else if pc = 100 then
      if ρ.2.1 q1 = 17 then
      fX7_init n 103 r0 x1 x2 0 0 0 0 M (ao_r ρ q1 12 (some q0))
      else none
    else if pc = 103 then
      some (M, ρ)
    else none
def gX7_init (n : Nat) (r0 : Nat) (x1 : Int32) (M : ao_M) (ρ : ao_H) : Option (ao_S) := fX7_init n 0 r0 x1 0 0 0 0 0 M ρ
set_option maxRecDepth 100000 in
set_option maxHeartbeats 4000000 in
theorem mX7_init : ∀ n : Nat, (∀ (r0 : Nat) (x1 : Int32) (M : ao_M) (ρ : ao_H) (y : ao_S), fX7_init n 0 r0 x1 0 0 0 0 0 M ρ = some y → ao_le ρ y.2) ∧ (∀ (r0 : Nat) (x1 : Int32) (q0 : Nat) (q1 : Nat) (M : ao_M) (ρ : ao_H) (y : ao_S), fX7_init n 13 r0 x1 0 q0 q1 0 0 M ρ = some y → ao_le ρ y.2) ∧ (∀ (r0 : Nat) (x1 : Int32) (q0 : Nat) (q1 : Nat) (M : ao_M) (ρ : ao_H) (y : ao_S), fX7_init n 18 r0 x1 0 q0 q1 0 0 M ρ = some y → ao_le ρ y.2) ∧ (∀ (r0 : Nat) (x1 : Int32) (M : ao_M) (ρ : ao_H) (y : ao_S), fX7_init n 21 r0 x1 0 0 0 0 0 M ρ = some y → ao_le ρ y.2) ∧ (∀ (r0 : Nat) (x1 : Int32) (q0 : Nat) (q1 : Nat) (M : ao_M) (ρ : ao_H) (y : ao_S), fX7_init n 31 r0 x1 0 q0 q1 0 0 M ρ = some y → ao_le ρ y.2) ∧ (∀ (r0 : Nat) (x1 : Int32) (M : ao_M) (ρ : ao_H) (y : ao_S), fX7_init n 34 r0 x1 0 0 0 0 0 M ρ = some y → ao_le ρ y.2) ∧ (∀ (r0 : Nat) (x1 : Int32) (q0 : Nat) (q1 : Nat) (M : ao_M) (ρ : ao_H) (y : ao_S), fX7_init n 39 r0 x1 0 q0 q1 0 0 M ρ = some y → ao_le ρ y.2) ∧ (∀ (r0 : Nat) (x1 : Int32) (M : ao_M) (ρ : ao_H) (y : ao_S), fX7_init n 42 r0 x1 0 0 0 0 0 M ρ = some y → ao_le ρ y.2) ∧ (∀ (r0 : Nat) (x1 : Int32) (q0 : Nat) (q1 : Nat) (M : ao_M) (ρ : ao_H) (y : ao_S), fX7_init n 48 r0 x1 0 q0 q1 0 0 M ρ = some y → ao_le ρ y.2) ∧ (∀ (r0 : Nat) (x1 : Int32) (M : ao_M) (ρ : ao_H) (y : ao_S), fX7_init n 51 r0 x1 0 0 0 0 0 M ρ = some y → ao_le ρ y.2) ∧ (∀ (r0 : Nat) (x1 : Int32) (x2 : Int32) (M : ao_M) (ρ : ao_H) (y : ao_S), fX7_init n 53 r0 x1 x2 0 0 0 0 M ρ = some y → ao_le ρ y.2) ∧ (∀ (r0 : Nat) (x1 : Int32) (x2 : Int32) (q0 : Nat) (s1 : Int32) (q2 : Nat) (M : ao_M) (ρ : ao_H) (y : ao_S), fX7_init n 67 r0 x1 x2 q0 0 s1 q2 M ρ = some y → ao_le ρ y.2) ∧ (∀ (r0 : Nat) (x1 : Int32) (x2 : Int32) (q0 : Nat) (s1 : Int32) (q2 : Nat) (M : ao_M) (ρ : ao_H) (y : ao_S), fX7_init n 71 r0 x1 x2 q0 0 s1 q2 M ρ = some y → ao_le ρ y.2) ∧ (∀ (r0 : Nat) (x1 : Int32) (x2 : Int32) (M : ao_M) (ρ : ao_H) (y : ao_S), fX7_init n 72 r0 x1 x2 0 0 0 0 M ρ = some y → ao_le ρ y.2) ∧ (∀ (r0 : Nat) (x1 : Int32) (x2 : Int32) (q0 : Nat) (q1 : Nat) (M : ao_M) (ρ : ao_H) (y : ao_S), fX7_init n 83 r0 x1 x2 q0 q1 0 0 M ρ = some y → ao_le ρ y.2) ∧ (∀ (r0 : Nat) (x1 : Int32) (x2 : Int32) (M : ao_M) (ρ : ao_H) (y : ao_S), fX7_init n 86 r0 x1 x2 0 0 0 0 M ρ = some y → ao_le ρ y.2) ∧ (∀ (r0 : Nat) (x1 : Int32) (x2 : Int32) (q0 : Nat) (q1 : Nat) (M : ao_M) (ρ : ao_H) (y : ao_S), fX7_init n 91 r0 x1 x2 q0 q1 0 0 M ρ = some y → ao_le ρ y.2) ∧ (∀ (r0 : Nat) (x1 : Int32) (x2 : Int32) (M : ao_M) (ρ : ao_H) (y : ao_S), fX7_init n 94 r0 x1 x2 0 0 0 0 M ρ = some y → ao_le ρ y.2) ∧ (∀ (r0 : Nat) (x1 : Int32) (x2 : Int32) (q0 : Nat) (q1 : Nat) (M : ao_M) (ρ : ao_H) (y : ao_S), fX7_init n 100 r0 x1 x2 q0 q1 0 0 M ρ = some y → ao_le ρ y.2) ∧ (∀ (r0 : Nat) (x1 : Int32) (x2 : Int32) (M : ao_M) (ρ : ao_H) (y : ao_S), fX7_init n 103 r0 x1 x2 0 0 0 0 M ρ = some y → ao_le ρ y.2) := by
  intro n
  induction n with
  | zero => exact ⟨fun _ _ _ _ _ h => ao_no h, fun _ _ _ _ _ _ _ h => ao_no h, fun _ _ _ _ _ _ _ h => ao_no h, fun _ _ _ _ _ h => ao_no h, fun _ _ _ _ _ _ _ h => ao_no h, fun _ _ _ _ _ h => ao_no h, fun _ _ _ _ _ _ _ h => ao_no h, fun _ _ _ _ _ h => ao_no h, fun _ _ _ _ _ _ _ h => ao_no h, fun _ _ _ _ _ h => ao_no h, fun _ _ _ _ _ _ h => ao_no h, fun _ _ _ _ _ _ _ _ _ h => ao_no h, fun _ _ _ _ _ _ _ _ _ h => ao_no h, fun _ _ _ _ _ _ h => ao_no h, fun _ _ _ _ _ _ _ _ h => ao_no h, fun _ _ _ _ _ _ h => ao_no h, fun _ _ _ _ _ _ _ _ h => ao_no h, fun _ _ _ _ _ _ h => ao_no h, fun _ _ _ _ _ _ _ _ h => ao_no h, fun _ _ _ _ _ _ h => ao_no h⟩
  | succ n ih =>
    refine ⟨?_, ?_, ?_, ?_, ?_, ?_, ?_, ?_, ?_, ?_, ?_, ?_, ?_, ?_, ?_, ?_, ?_, ?_, ?_, ?_⟩
    · intro r0 x1 M ρ y h
      replace h := ao_ifT h rfl
      obtain ⟨-, h⟩ := ao_some h
      replace h := ao_letD h rfl
      generalize (ao_u M r0 0 x1) = M2 at h
      obtain ⟨n3, hn3, h⟩ := ao_bind h
      exact ao_le_tr (ao_le_nw _ _ _ _ _) (ih.2.1 r0 x1 n3 r0 (ao_zr M2 n3) (ao_nw ρ n3 11 0 6) _ h)
    · intro r0 x1 q0 q1 M ρ y h
      replace h := ao_ifF h (by decide)
      replace h := ao_ifT h rfl
      obtain ⟨p4, hp4, h⟩ := ao_bind h
      exact ao_le_tr (me_X1_init n q0 (0 : Int32) M ρ hp4) (ih.2.2.1 r0 x1 q0 q1 p4.1 p4.2 _ h)
    · intro r0 x1 q0 q1 M ρ y h
      replace h := ao_ifF h (by decide)
      replace h := ao_ifF h (by decide)
      replace h := ao_ifT h rfl
      obtain ⟨-, h⟩ := ao_some h
      exact ao_le_tr (ao_le_r _ _ _ _) (ih.2.2.2.1 r0 x1 M (ao_r ρ q1 1 (some q0)) _ h)
    · intro r0 x1 M ρ y h
      replace h := ao_ifF h (by decide)
      replace h := ao_ifF h (by decide)
      replace h := ao_ifF h (by decide)
      replace h := ao_ifT h rfl
      obtain ⟨-, h⟩ := ao_some h
      replace h := ao_letD h rfl
      generalize (ao_u M r0 2 (0 : Int32)) = M7 at h
      obtain ⟨n8, hn8, h⟩ := ao_bind h
      obtain ⟨-, h⟩ := ao_some h
      exact ao_le_tr (ao_le_nw _ _ _ _ _) (ih.2.2.2.2.1 r0 x1 n8 r0 (ao_zr M7 n8) (ao_nw ρ n8 0 (64 : Int32).toNatClampNeg (64 : Int32).toNatClampNeg) _ h)
    · intro r0 x1 q0 q1 M ρ y h
      replace h := ao_ifF h (by decide)
      replace h := ao_ifF h (by decide)
      replace h := ao_ifF h (by decide)
      replace h := ao_ifF h (by decide)
      replace h := ao_ifT h rfl
      obtain ⟨-, h⟩ := ao_some h
      exact ao_le_tr (ao_le_r _ _ _ _) (ih.2.2.2.2.2.1 r0 x1 M (ao_r ρ q1 4 (some q0)) _ h)
    · intro r0 x1 M ρ y h
      replace h := ao_ifF h (by decide)
      replace h := ao_ifF h (by decide)
      replace h := ao_ifF h (by decide)
      replace h := ao_ifF h (by decide)
      replace h := ao_ifF h (by decide)
      replace h := ao_ifT h rfl
      obtain ⟨n11, hn11, h⟩ := ao_bind h
      obtain ⟨-, h⟩ := ao_some h
      exact ao_le_tr (ao_le_nw _ _ _ _ _) (ih.2.2.2.2.2.2.1 r0 x1 n11 r0 (ao_zr M n11) (ao_nw ρ n11 0 (26 : Int32).toNatClampNeg (26 : Int32).toNatClampNeg) _ h)
    · intro r0 x1 q0 q1 M ρ y h
      replace h := ao_ifF h (by decide)
      replace h := ao_ifF h (by decide)
      replace h := ao_ifF h (by decide)
      replace h := ao_ifF h (by decide)
      replace h := ao_ifF h (by decide)
      replace h := ao_ifF h (by decide)
      replace h := ao_ifT h rfl
      obtain ⟨-, h⟩ := ao_some h
      exact ao_le_tr (ao_le_r _ _ _ _) (ih.2.2.2.2.2.2.2.1 r0 x1 M (ao_r ρ q1 6 (some q0)) _ h)
    · intro r0 x1 M ρ y h
      replace h := ao_ifF h (by decide)
      replace h := ao_ifF h (by decide)
      replace h := ao_ifF h (by decide)
      replace h := ao_ifF h (by decide)
      replace h := ao_ifF h (by decide)
      replace h := ao_ifF h (by decide)
      replace h := ao_ifF h (by decide)
      replace h := ao_ifT h rfl
      obtain ⟨n14, hn14, h⟩ := ao_bind h
      obtain ⟨-, h⟩ := ao_some h
      exact ao_le_tr (ao_le_nw _ _ _ _ _) (ih.2.2.2.2.2.2.2.2.1 r0 x1 n14 r0 (ao_zr M n14) (ao_nw ρ n14 5 (10 : Int32).toNatClampNeg (10 : Int32).toNatClampNeg) _ h)
    · intro r0 x1 q0 q1 M ρ y h
      replace h := ao_ifF h (by decide)
      replace h := ao_ifF h (by decide)
      replace h := ao_ifF h (by decide)
      replace h := ao_ifF h (by decide)
      replace h := ao_ifF h (by decide)
      replace h := ao_ifF h (by decide)
      replace h := ao_ifF h (by decide)
      replace h := ao_ifF h (by decide)
      replace h := ao_ifT h rfl
      obtain ⟨-, h⟩ := ao_some h
      exact ao_le_tr (ao_le_r _ _ _ _) (ih.2.2.2.2.2.2.2.2.2.1 r0 x1 M (ao_r ρ q1 7 (some q0)) _ h)
    · intro r0 x1 M ρ y h
      replace h := ao_ifF h (by decide)
      replace h := ao_ifF h (by decide)
      replace h := ao_ifF h (by decide)
      replace h := ao_ifF h (by decide)
      replace h := ao_ifF h (by decide)
      replace h := ao_ifF h (by decide)
      replace h := ao_ifF h (by decide)
      replace h := ao_ifF h (by decide)
      replace h := ao_ifF h (by decide)
      replace h := ao_ifT h rfl
      exact ih.2.2.2.2.2.2.2.2.2.2.1 r0 x1 (0 : Int32) M ρ _ h
    · intro r0 x1 x2 M ρ y h
      replace h := ao_ifF h (by decide)
      replace h := ao_ifF h (by decide)
      replace h := ao_ifF h (by decide)
      replace h := ao_ifF h (by decide)
      replace h := ao_ifF h (by decide)
      replace h := ao_ifF h (by decide)
      replace h := ao_ifF h (by decide)
      replace h := ao_ifF h (by decide)
      replace h := ao_ifF h (by decide)
      replace h := ao_ifF h (by decide)
      replace h := ao_ifT h rfl
      rcases ao_ifC h with h | h
      · obtain ⟨n18, hn18, h⟩ := ao_bind h
        obtain ⟨-, h⟩ := ao_some h
        exact ao_le_tr (ao_le_nw _ _ _ _ _) (ih.2.2.2.2.2.2.2.2.2.2.2.2.2.2.1 r0 x1 x2 n18 r0 (ao_zr M n18) (ao_nw ρ n18 0 (10 : Int32).toNatClampNeg (10 : Int32).toNatClampNeg) _ h)
      · obtain ⟨-, h⟩ := ao_some h
        obtain ⟨j21, hj21, h⟩ := ao_bind h
        obtain ⟨n22, hn22, h⟩ := ao_bind h
        exact ao_le_tr (ao_le_nw _ _ _ _ _) (ih.2.2.2.2.2.2.2.2.2.2.2.1 r0 x1 x2 n22 x2 j21 (ao_zr M n22) (ao_nw ρ n22 13 0 12) _ h)
    · intro r0 x1 x2 q0 s1 q2 M ρ y h
      replace h := ao_ifF h (by decide)
      replace h := ao_ifF h (by decide)
      replace h := ao_ifF h (by decide)
      replace h := ao_ifF h (by decide)
      replace h := ao_ifF h (by decide)
      replace h := ao_ifF h (by decide)
      replace h := ao_ifF h (by decide)
      replace h := ao_ifF h (by decide)
      replace h := ao_ifF h (by decide)
      replace h := ao_ifF h (by decide)
      replace h := ao_ifF h (by decide)
      replace h := ao_ifT h rfl
      obtain ⟨p23, hp23, h⟩ := ao_bind h
      exact ao_le_tr (me_X3_init n q0 M ρ hp23) (ih.2.2.2.2.2.2.2.2.2.2.2.2.1 r0 x1 x2 q0 s1 q2 p23.1 p23.2 _ h)
    · intro r0 x1 x2 q0 s1 q2 M ρ y h
      replace h := ao_ifF h (by decide)
      replace h := ao_ifF h (by decide)
      replace h := ao_ifF h (by decide)
      replace h := ao_ifF h (by decide)
      replace h := ao_ifF h (by decide)
      replace h := ao_ifF h (by decide)
      replace h := ao_ifF h (by decide)
      replace h := ao_ifF h (by decide)
      replace h := ao_ifF h (by decide)
      replace h := ao_ifF h (by decide)
      replace h := ao_ifF h (by decide)
      replace h := ao_ifF h (by decide)
      replace h := ao_ifT h rfl
      obtain ⟨-, h⟩ := ao_some h
      obtain ⟨-, h⟩ := ao_some h
      obtain ⟨-, h⟩ := ao_some h
      exact ao_le_tr (ao_le_r _ _ _ _) (ih.2.2.2.2.2.2.2.2.2.2.2.2.2.1 r0 x1 x2 M (ao_r ρ q2 s1.toNatClampNeg (some q0)) _ h)
    · intro r0 x1 x2 M ρ y h
      replace h := ao_ifF h (by decide)
      replace h := ao_ifF h (by decide)
      replace h := ao_ifF h (by decide)
      replace h := ao_ifF h (by decide)
      replace h := ao_ifF h (by decide)
      replace h := ao_ifF h (by decide)
      replace h := ao_ifF h (by decide)
      replace h := ao_ifF h (by decide)
      replace h := ao_ifF h (by decide)
      replace h := ao_ifF h (by decide)
      replace h := ao_ifF h (by decide)
      replace h := ao_ifF h (by decide)
      replace h := ao_ifF h (by decide)
      replace h := ao_ifT h rfl
      replace h := ao_letD h rfl
      generalize (x2 + (1 : Int32)) = v27 at h
      exact ih.2.2.2.2.2.2.2.2.2.2.1 r0 x1 v27 M ρ _ h
    · intro r0 x1 x2 q0 q1 M ρ y h
      replace h := ao_ifF h (by decide)
      replace h := ao_ifF h (by decide)
      replace h := ao_ifF h (by decide)
      replace h := ao_ifF h (by decide)
      replace h := ao_ifF h (by decide)
      replace h := ao_ifF h (by decide)
      replace h := ao_ifF h (by decide)
      replace h := ao_ifF h (by decide)
      replace h := ao_ifF h (by decide)
      replace h := ao_ifF h (by decide)
      replace h := ao_ifF h (by decide)
      replace h := ao_ifF h (by decide)
      replace h := ao_ifF h (by decide)
      replace h := ao_ifF h (by decide)
      replace h := ao_ifT h rfl
      obtain ⟨-, h⟩ := ao_some h
      exact ao_le_tr (ao_le_r _ _ _ _) (ih.2.2.2.2.2.2.2.2.2.2.2.2.2.2.2.1 r0 x1 x2 M (ao_r ρ q1 9 (some q0)) _ h)
    · intro r0 x1 x2 M ρ y h
      replace h := ao_ifF h (by decide)
      replace h := ao_ifF h (by decide)
      replace h := ao_ifF h (by decide)
      replace h := ao_ifF h (by decide)
      replace h := ao_ifF h (by decide)
      replace h := ao_ifF h (by decide)
      replace h := ao_ifF h (by decide)
      replace h := ao_ifF h (by decide)
      replace h := ao_ifF h (by decide)
      replace h := ao_ifF h (by decide)
      replace h := ao_ifF h (by decide)
      replace h := ao_ifF h (by decide)
      replace h := ao_ifF h (by decide)
      replace h := ao_ifF h (by decide)
      replace h := ao_ifF h (by decide)
      replace h := ao_ifT h rfl
      obtain ⟨n29, hn29, h⟩ := ao_bind h
      obtain ⟨-, h⟩ := ao_some h
      exact ao_le_tr (ao_le_nw _ _ _ _ _) (ih.2.2.2.2.2.2.2.2.2.2.2.2.2.2.2.2.1 r0 x1 x2 n29 r0 (ao_zr M n29) (ao_nw ρ n29 0 (10 : Int32).toNatClampNeg (10 : Int32).toNatClampNeg) _ h)
    · intro r0 x1 x2 q0 q1 M ρ y h
      replace h := ao_ifF h (by decide)
      replace h := ao_ifF h (by decide)
      replace h := ao_ifF h (by decide)
      replace h := ao_ifF h (by decide)
      replace h := ao_ifF h (by decide)
      replace h := ao_ifF h (by decide)
      replace h := ao_ifF h (by decide)
      replace h := ao_ifF h (by decide)
      replace h := ao_ifF h (by decide)
      replace h := ao_ifF h (by decide)
      replace h := ao_ifF h (by decide)
      replace h := ao_ifF h (by decide)
      replace h := ao_ifF h (by decide)
      replace h := ao_ifF h (by decide)
      replace h := ao_ifF h (by decide)
      replace h := ao_ifF h (by decide)
      replace h := ao_ifT h rfl
      obtain ⟨-, h⟩ := ao_some h
      exact ao_le_tr (ao_le_r _ _ _ _) (ih.2.2.2.2.2.2.2.2.2.2.2.2.2.2.2.2.2.1 r0 x1 x2 M (ao_r ρ q1 10 (some q0)) _ h)
    · intro r0 x1 x2 M ρ y h
      replace h := ao_ifF h (by decide)
      replace h := ao_ifF h (by decide)
      replace h := ao_ifF h (by decide)
      replace h := ao_ifF h (by decide)
      replace h := ao_ifF h (by decide)
      replace h := ao_ifF h (by decide)
      replace h := ao_ifF h (by decide)
      replace h := ao_ifF h (by decide)
      replace h := ao_ifF h (by decide)
      replace h := ao_ifF h (by decide)
      replace h := ao_ifF h (by decide)
      replace h := ao_ifF h (by decide)
      replace h := ao_ifF h (by decide)
      replace h := ao_ifF h (by decide)
      replace h := ao_ifF h (by decide)
      replace h := ao_ifF h (by decide)
      replace h := ao_ifF h (by decide)
      replace h := ao_ifT h rfl
      obtain ⟨n32, hn32, h⟩ := ao_bind h
      obtain ⟨-, h⟩ := ao_some h
      exact ao_le_tr (ao_le_nw _ _ _ _ _) (ih.2.2.2.2.2.2.2.2.2.2.2.2.2.2.2.2.2.2.1 r0 x1 x2 n32 r0 (ao_zr M n32) (ao_nw ρ n32 0 (200 : Int32).toNatClampNeg (200 : Int32).toNatClampNeg) _ h)
    · intro r0 x1 x2 q0 q1 M ρ y h
      replace h := ao_ifF h (by decide)
      replace h := ao_ifF h (by decide)
      replace h := ao_ifF h (by decide)
      replace h := ao_ifF h (by decide)
      replace h := ao_ifF h (by decide)
      replace h := ao_ifF h (by decide)
      replace h := ao_ifF h (by decide)
      replace h := ao_ifF h (by decide)
      replace h := ao_ifF h (by decide)
      replace h := ao_ifF h (by decide)
      replace h := ao_ifF h (by decide)
      replace h := ao_ifF h (by decide)
      replace h := ao_ifF h (by decide)
      replace h := ao_ifF h (by decide)
      replace h := ao_ifF h (by decide)
      replace h := ao_ifF h (by decide)
      replace h := ao_ifF h (by decide)
      replace h := ao_ifF h (by decide)
      replace h := ao_ifT h rfl
      obtain ⟨-, h⟩ := ao_some h
      exact ao_le_tr (ao_le_r _ _ _ _) (ih.2.2.2.2.2.2.2.2.2.2.2.2.2.2.2.2.2.2.2 r0 x1 x2 M (ao_r ρ q1 12 (some q0)) _ h)
    · intro r0 x1 x2 M ρ y h
      replace h := ao_ifF h (by decide)
      replace h := ao_ifF h (by decide)
      replace h := ao_ifF h (by decide)
      replace h := ao_ifF h (by decide)
      replace h := ao_ifF h (by decide)
      replace h := ao_ifF h (by decide)
      replace h := ao_ifF h (by decide)
      replace h := ao_ifF h (by decide)
      replace h := ao_ifF h (by decide)
      replace h := ao_ifF h (by decide)
      replace h := ao_ifF h (by decide)
      replace h := ao_ifF h (by decide)
      replace h := ao_ifF h (by decide)
      replace h := ao_ifF h (by decide)
      replace h := ao_ifF h (by decide)
      replace h := ao_ifF h (by decide)
      replace h := ao_ifF h (by decide)
      replace h := ao_ifF h (by decide)
      replace h := ao_ifF h (by decide)
      replace h := ao_ifT h rfl
      cases h
      exact ao_le_rf _
set_option maxRecDepth 100000 in
set_option maxHeartbeats 4000000 in
theorem wX7_init {Γ : ao_C} (d : Nat) (hd : 2 ≤ d) (MC MS : Nat) : ∀ n : Nat, (∀ (r0 : Nat) (x1 : Int32) (M : ao_M) (ρ : ao_H) (y : ao_S), fX7_init n 0 r0 x1 0 0 0 0 0 M ρ = some y → ao_W Γ uX7_init (ao_rm d MC MS) (ao_Q Γ (ao_QV y) MC MS) (ao_dc ρ y.2) (ao_ds ρ y.2) 0 [some (.ref (Γ.2.2.2 + r0)), some (.int x1), none] [] (M, ρ)) ∧ (∀ (r0 : Nat) (x1 : Int32) (q0 : Nat) (q1 : Nat) (M : ao_M) (ρ : ao_H) (y : ao_S), fX7_init n 13 r0 x1 0 q0 q1 0 0 M ρ = some y → ao_W Γ uX7_init (ao_rm d MC MS) (ao_Q Γ (ao_QV y) MC MS) (ao_dc ρ y.2) (ao_ds ρ y.2) 13 [some (.ref (Γ.2.2.2 + r0)), some (.int x1), none] [.ref (Γ.2.2.2 + q0), .ref (Γ.2.2.2 + q1)] (M, ρ)) ∧ (∀ (r0 : Nat) (x1 : Int32) (q0 : Nat) (q1 : Nat) (M : ao_M) (ρ : ao_H) (y : ao_S), fX7_init n 18 r0 x1 0 q0 q1 0 0 M ρ = some y → ao_W Γ uX7_init (ao_rm d MC MS) (ao_Q Γ (ao_QV y) MC MS) (ao_dc ρ y.2) (ao_ds ρ y.2) 18 [some (.ref (Γ.2.2.2 + r0)), some (.int x1), none] [.ref (Γ.2.2.2 + q0), .ref (Γ.2.2.2 + q1)] (M, ρ)) ∧ (∀ (r0 : Nat) (x1 : Int32) (M : ao_M) (ρ : ao_H) (y : ao_S), fX7_init n 21 r0 x1 0 0 0 0 0 M ρ = some y → ao_W Γ uX7_init (ao_rm d MC MS) (ao_Q Γ (ao_QV y) MC MS) (ao_dc ρ y.2) (ao_ds ρ y.2) 21 [some (.ref (Γ.2.2.2 + r0)), some (.int x1), none] [] (M, ρ)) ∧ (∀ (r0 : Nat) (x1 : Int32) (q0 : Nat) (q1 : Nat) (M : ao_M) (ρ : ao_H) (y : ao_S), fX7_init n 31 r0 x1 0 q0 q1 0 0 M ρ = some y → ao_W Γ uX7_init (ao_rm d MC MS) (ao_Q Γ (ao_QV y) MC MS) (ao_dc ρ y.2) (ao_ds ρ y.2) 31 [some (.ref (Γ.2.2.2 + r0)), some (.int x1), none] [.ref (Γ.2.2.2 + q0), .ref (Γ.2.2.2 + q1)] (M, ρ)) ∧ (∀ (r0 : Nat) (x1 : Int32) (M : ao_M) (ρ : ao_H) (y : ao_S), fX7_init n 34 r0 x1 0 0 0 0 0 M ρ = some y → ao_W Γ uX7_init (ao_rm d MC MS) (ao_Q Γ (ao_QV y) MC MS) (ao_dc ρ y.2) (ao_ds ρ y.2) 34 [some (.ref (Γ.2.2.2 + r0)), some (.int x1), none] [] (M, ρ)) ∧ (∀ (r0 : Nat) (x1 : Int32) (q0 : Nat) (q1 : Nat) (M : ao_M) (ρ : ao_H) (y : ao_S), fX7_init n 39 r0 x1 0 q0 q1 0 0 M ρ = some y → ao_W Γ uX7_init (ao_rm d MC MS) (ao_Q Γ (ao_QV y) MC MS) (ao_dc ρ y.2) (ao_ds ρ y.2) 39 [some (.ref (Γ.2.2.2 + r0)), some (.int x1), none] [.ref (Γ.2.2.2 + q0), .ref (Γ.2.2.2 + q1)] (M, ρ)) ∧ (∀ (r0 : Nat) (x1 : Int32) (M : ao_M) (ρ : ao_H) (y : ao_S), fX7_init n 42 r0 x1 0 0 0 0 0 M ρ = some y → ao_W Γ uX7_init (ao_rm d MC MS) (ao_Q Γ (ao_QV y) MC MS) (ao_dc ρ y.2) (ao_ds ρ y.2) 42 [some (.ref (Γ.2.2.2 + r0)), some (.int x1), none] [] (M, ρ)) ∧ (∀ (r0 : Nat) (x1 : Int32) (q0 : Nat) (q1 : Nat) (M : ao_M) (ρ : ao_H) (y : ao_S), fX7_init n 48 r0 x1 0 q0 q1 0 0 M ρ = some y → ao_W Γ uX7_init (ao_rm d MC MS) (ao_Q Γ (ao_QV y) MC MS) (ao_dc ρ y.2) (ao_ds ρ y.2) 48 [some (.ref (Γ.2.2.2 + r0)), some (.int x1), none] [.ref (Γ.2.2.2 + q0), .ref (Γ.2.2.2 + q1)] (M, ρ)) ∧ (∀ (r0 : Nat) (x1 : Int32) (M : ao_M) (ρ : ao_H) (y : ao_S), fX7_init n 51 r0 x1 0 0 0 0 0 M ρ = some y → ao_W Γ uX7_init (ao_rm d MC MS) (ao_Q Γ (ao_QV y) MC MS) (ao_dc ρ y.2) (ao_ds ρ y.2) 51 [some (.ref (Γ.2.2.2 + r0)), some (.int x1), none] [] (M, ρ)) ∧ (∀ (r0 : Nat) (x1 : Int32) (x2 : Int32) (M : ao_M) (ρ : ao_H) (y : ao_S), fX7_init n 53 r0 x1 x2 0 0 0 0 M ρ = some y → ao_W Γ uX7_init (ao_rm d MC MS) (ao_Q Γ (ao_QV y) MC MS) (ao_dc ρ y.2) (ao_ds ρ y.2) 53 [some (.ref (Γ.2.2.2 + r0)), some (.int x1), some (.int x2)] [] (M, ρ)) ∧ (∀ (r0 : Nat) (x1 : Int32) (x2 : Int32) (q0 : Nat) (s1 : Int32) (q2 : Nat) (M : ao_M) (ρ : ao_H) (y : ao_S), fX7_init n 67 r0 x1 x2 q0 0 s1 q2 M ρ = some y → ao_W Γ uX7_init (ao_rm d MC MS) (ao_Q Γ (ao_QV y) MC MS) (ao_dc ρ y.2) (ao_ds ρ y.2) 67 [some (.ref (Γ.2.2.2 + r0)), some (.int x1), some (.int x2)] [.ref (Γ.2.2.2 + q0), .int s1, .ref (Γ.2.2.2 + q2)] (M, ρ)) ∧ (∀ (r0 : Nat) (x1 : Int32) (x2 : Int32) (q0 : Nat) (s1 : Int32) (q2 : Nat) (M : ao_M) (ρ : ao_H) (y : ao_S), fX7_init n 71 r0 x1 x2 q0 0 s1 q2 M ρ = some y → ao_W Γ uX7_init (ao_rm d MC MS) (ao_Q Γ (ao_QV y) MC MS) (ao_dc ρ y.2) (ao_ds ρ y.2) 71 [some (.ref (Γ.2.2.2 + r0)), some (.int x1), some (.int x2)] [.ref (Γ.2.2.2 + q0), .int s1, .ref (Γ.2.2.2 + q2)] (M, ρ)) ∧ (∀ (r0 : Nat) (x1 : Int32) (x2 : Int32) (M : ao_M) (ρ : ao_H) (y : ao_S), fX7_init n 72 r0 x1 x2 0 0 0 0 M ρ = some y → ao_W Γ uX7_init (ao_rm d MC MS) (ao_Q Γ (ao_QV y) MC MS) (ao_dc ρ y.2) (ao_ds ρ y.2) 72 [some (.ref (Γ.2.2.2 + r0)), some (.int x1), some (.int x2)] [] (M, ρ)) ∧ (∀ (r0 : Nat) (x1 : Int32) (x2 : Int32) (q0 : Nat) (q1 : Nat) (M : ao_M) (ρ : ao_H) (y : ao_S), fX7_init n 83 r0 x1 x2 q0 q1 0 0 M ρ = some y → ao_W Γ uX7_init (ao_rm d MC MS) (ao_Q Γ (ao_QV y) MC MS) (ao_dc ρ y.2) (ao_ds ρ y.2) 83 [some (.ref (Γ.2.2.2 + r0)), some (.int x1), some (.int x2)] [.ref (Γ.2.2.2 + q0), .ref (Γ.2.2.2 + q1)] (M, ρ)) ∧ (∀ (r0 : Nat) (x1 : Int32) (x2 : Int32) (M : ao_M) (ρ : ao_H) (y : ao_S), fX7_init n 86 r0 x1 x2 0 0 0 0 M ρ = some y → ao_W Γ uX7_init (ao_rm d MC MS) (ao_Q Γ (ao_QV y) MC MS) (ao_dc ρ y.2) (ao_ds ρ y.2) 86 [some (.ref (Γ.2.2.2 + r0)), some (.int x1), some (.int x2)] [] (M, ρ)) ∧ (∀ (r0 : Nat) (x1 : Int32) (x2 : Int32) (q0 : Nat) (q1 : Nat) (M : ao_M) (ρ : ao_H) (y : ao_S), fX7_init n 91 r0 x1 x2 q0 q1 0 0 M ρ = some y → ao_W Γ uX7_init (ao_rm d MC MS) (ao_Q Γ (ao_QV y) MC MS) (ao_dc ρ y.2) (ao_ds ρ y.2) 91 [some (.ref (Γ.2.2.2 + r0)), some (.int x1), some (.int x2)] [.ref (Γ.2.2.2 + q0), .ref (Γ.2.2.2 + q1)] (M, ρ)) ∧ (∀ (r0 : Nat) (x1 : Int32) (x2 : Int32) (M : ao_M) (ρ : ao_H) (y : ao_S), fX7_init n 94 r0 x1 x2 0 0 0 0 M ρ = some y → ao_W Γ uX7_init (ao_rm d MC MS) (ao_Q Γ (ao_QV y) MC MS) (ao_dc ρ y.2) (ao_ds ρ y.2) 94 [some (.ref (Γ.2.2.2 + r0)), some (.int x1), some (.int x2)] [] (M, ρ)) ∧ (∀ (r0 : Nat) (x1 : Int32) (x2 : Int32) (q0 : Nat) (q1 : Nat) (M : ao_M) (ρ : ao_H) (y : ao_S), fX7_init n 100 r0 x1 x2 q0 q1 0 0 M ρ = some y → ao_W Γ uX7_init (ao_rm d MC MS) (ao_Q Γ (ao_QV y) MC MS) (ao_dc ρ y.2) (ao_ds ρ y.2) 100 [some (.ref (Γ.2.2.2 + r0)), some (.int x1), some (.int x2)] [.ref (Γ.2.2.2 + q0), .ref (Γ.2.2.2 + q1)] (M, ρ)) ∧ (∀ (r0 : Nat) (x1 : Int32) (x2 : Int32) (M : ao_M) (ρ : ao_H) (y : ao_S), fX7_init n 103 r0 x1 x2 0 0 0 0 M ρ = some y → ao_W Γ uX7_init (ao_rm d MC MS) (ao_Q Γ (ao_QV y) MC MS) (ao_dc ρ y.2) (ao_ds ρ y.2) 103 [some (.ref (Γ.2.2.2 + r0)), some (.int x1), some (.int x2)] [] (M, ρ)) := by
  intro n
  induction n with
  | zero => exact ⟨fun _ _ _ _ _ h => ao_no h, fun _ _ _ _ _ _ _ h => ao_no h, fun _ _ _ _ _ _ _ h => ao_no h, fun _ _ _ _ _ h => ao_no h, fun _ _ _ _ _ _ _ h => ao_no h, fun _ _ _ _ _ h => ao_no h, fun _ _ _ _ _ _ _ h => ao_no h, fun _ _ _ _ _ h => ao_no h, fun _ _ _ _ _ _ _ h => ao_no h, fun _ _ _ _ _ h => ao_no h, fun _ _ _ _ _ _ h => ao_no h, fun _ _ _ _ _ _ _ _ _ h => ao_no h, fun _ _ _ _ _ _ _ _ _ h => ao_no h, fun _ _ _ _ _ _ h => ao_no h, fun _ _ _ _ _ _ _ _ h => ao_no h, fun _ _ _ _ _ _ h => ao_no h, fun _ _ _ _ _ _ _ _ h => ao_no h, fun _ _ _ _ _ _ h => ao_no h, fun _ _ _ _ _ _ _ _ h => ao_no h, fun _ _ _ _ _ _ h => ao_no h⟩
  | succ n ih =>
    refine ⟨?_, ?_, ?_, ?_, ?_, ?_, ?_, ?_, ?_, ?_, ?_, ?_, ?_, ?_, ?_, ?_, ?_, ?_, ?_, ?_⟩
    · intro r0 x1 M ρ y h
      replace h := ao_ifT h rfl
      refine ao_aload_n 0 dX7_init_0 rfl rfl ?_
      refine bi_obj dX7_init_1 loi_X7_3 (Nat.le_of_ble_eq_true rfl) (ao_cpR (by omega)) ?_
      refine ao_aload_n 0 dX7_init_4 rfl rfl ?_
      refine ao_iload_n 1 dX7_init_5 rfl rfl ?_
      obtain ⟨hk1, h⟩ := ao_some h
      refine ba_putIF r0 7 0 (q := (RX7, TX7, 20)) dX7_init_6 rfl hk1 (Nat.le_of_ble_eq_true rfl) lf_X7_9 (Or.inr ⟨rfl, rfl⟩) rfl rfl rfl (fun M2 hM2 => ?_)
      replace h := ao_letD h hM2
      refine ao_aload_n 0 dX7_init_9 rfl rfl ?_
      obtain ⟨n3, hn3, h⟩ := ao_bind h
      refine ba_new n3 1 (q := (RX1, TX1, 6)) dX7_init_10 rfl hn3 lnw_X7_15 (ao_dc_nw ((mX7_init n).2.1 r0 x1 n3 r0 (ao_zr M2 n3) (ao_nw ρ n3 11 0 6) _ h)) ?_
      exact ih.2.1 r0 x1 n3 r0 (ao_zr M2 n3) (ao_nw ρ n3 11 0 6) _ h
    · intro r0 x1 q0 q1 M ρ y h
      replace h := ao_ifF h (by decide)
      replace h := ao_ifT h rfl
      refine ao_dup dX7_init_13 rfl ?_
      refine ao_iconst (v := 0) dX7_init_14 (by decide) ?_
      obtain ⟨p4, hp4, h⟩ := ao_bind h
      refine bi_callI q0 [.int (0 : Int32)] (aX1_init (d - 1) (by omega) n q0 (0 : Int32) M ρ hp4) dX7_init_15 lc_X7_17 li_X1_init rfl rfl rfl (Nat.le_of_ble_eq_true rfl) (ao_hR (by omega) (by decide)) (ao_leC (me_X1_init n q0 (0 : Int32) M ρ hp4) ((mX7_init n).2.2.1 r0 x1 q0 q1 p4.1 p4.2 _ h)) (ao_leS (me_X1_init n q0 (0 : Int32) M ρ hp4) ((mX7_init n).2.2.1 r0 x1 q0 q1 p4.1 p4.2 _ h)) ?_
      exact ih.2.2.1 r0 x1 q0 q1 p4.1 p4.2 _ h
    · intro r0 x1 q0 q1 M ρ y h
      replace h := ao_ifF h (by decide)
      replace h := ao_ifF h (by decide)
      replace h := ao_ifT h rfl
      obtain ⟨hk5, h⟩ := ao_some h
      refine ba_putR q1 7 1 (q := (RX7, TX7, 20)) dX7_init_18 rfl hk5 (Nat.le_of_ble_eq_true rfl) lf_X7_20 (Or.inl rfl) rfl rfl rfl ?_
      exact ih.2.2.2.1 r0 x1 M (ao_r ρ q1 1 (some q0)) _ h
    · intro r0 x1 M ρ y h
      replace h := ao_ifF h (by decide)
      replace h := ao_ifF h (by decide)
      replace h := ao_ifF h (by decide)
      replace h := ao_ifT h rfl
      refine ao_aload_n 0 dX7_init_21 rfl rfl ?_
      refine ao_iconst (v := 0) dX7_init_22 (by decide) ?_
      obtain ⟨hk6, h⟩ := ao_some h
      refine an_putI r0 7 2 (q := (RX7, TX7, 20)) dX7_init_23 rfl hk6 (Nat.le_of_ble_eq_true rfl) lf_X7_24 rfl rfl rfl rfl (fun M7 hM7 => ?_)
      replace h := ao_letD h hM7
      refine ao_aload_n 0 dX7_init_26 rfl rfl ?_
      refine ao_bipush (v := 64) dX7_init_27 (by decide) ?_
      obtain ⟨n8, hn8, h⟩ := ao_bind h
      obtain ⟨hb9, h⟩ := ao_some h
      refine ba_newa n8 0 dX7_init_29 rfl (by decide) hn8 lna_0 hb9.1 hb9.2 (ao_dc_nw ((mX7_init n).2.2.2.2.1 r0 x1 n8 r0 (ao_zr M7 n8) (ao_nw ρ n8 0 (64 : Int32).toNatClampNeg (64 : Int32).toNatClampNeg) _ h)) ?_
      exact ih.2.2.2.2.1 r0 x1 n8 r0 (ao_zr M7 n8) (ao_nw ρ n8 0 (64 : Int32).toNatClampNeg (64 : Int32).toNatClampNeg) _ h
    · intro r0 x1 q0 q1 M ρ y h
      replace h := ao_ifF h (by decide)
      replace h := ao_ifF h (by decide)
      replace h := ao_ifF h (by decide)
      replace h := ao_ifF h (by decide)
      replace h := ao_ifT h rfl
      obtain ⟨hk10, h⟩ := ao_some h
      refine ba_putR q1 7 4 (q := (RX7, TX7, 20)) dX7_init_31 rfl hk10 (Nat.le_of_ble_eq_true rfl) lf_X7_27 (Or.inr ⟨rfl, rfl⟩) rfl rfl rfl ?_
      exact ih.2.2.2.2.2.1 r0 x1 M (ao_r ρ q1 4 (some q0)) _ h
    · intro r0 x1 M ρ y h
      replace h := ao_ifF h (by decide)
      replace h := ao_ifF h (by decide)
      replace h := ao_ifF h (by decide)
      replace h := ao_ifF h (by decide)
      replace h := ao_ifF h (by decide)
      replace h := ao_ifT h rfl
      refine ao_aload_n 0 dX7_init_34 rfl rfl ?_
      refine ao_bipush (v := 26) dX7_init_35 (by decide) ?_
      obtain ⟨n11, hn11, h⟩ := ao_bind h
      obtain ⟨hb12, h⟩ := ao_some h
      refine ba_newa n11 0 dX7_init_37 rfl (by decide) hn11 lna_0 hb12.1 hb12.2 (ao_dc_nw ((mX7_init n).2.2.2.2.2.2.1 r0 x1 n11 r0 (ao_zr M n11) (ao_nw ρ n11 0 (26 : Int32).toNatClampNeg (26 : Int32).toNatClampNeg) _ h)) ?_
      exact ih.2.2.2.2.2.2.1 r0 x1 n11 r0 (ao_zr M n11) (ao_nw ρ n11 0 (26 : Int32).toNatClampNeg (26 : Int32).toNatClampNeg) _ h
    · intro r0 x1 q0 q1 M ρ y h
      replace h := ao_ifF h (by decide)
      replace h := ao_ifF h (by decide)
      replace h := ao_ifF h (by decide)
      replace h := ao_ifF h (by decide)
      replace h := ao_ifF h (by decide)
      replace h := ao_ifF h (by decide)
      replace h := ao_ifT h rfl
      obtain ⟨hk13, h⟩ := ao_some h
      refine ba_putR q1 7 6 (q := (RX7, TX7, 20)) dX7_init_39 rfl hk13 (Nat.le_of_ble_eq_true rfl) lf_X7_31 (Or.inr ⟨rfl, rfl⟩) rfl rfl rfl ?_
      exact ih.2.2.2.2.2.2.2.1 r0 x1 M (ao_r ρ q1 6 (some q0)) _ h
    · intro r0 x1 M ρ y h
      replace h := ao_ifF h (by decide)
      replace h := ao_ifF h (by decide)
      replace h := ao_ifF h (by decide)
      replace h := ao_ifF h (by decide)
      replace h := ao_ifF h (by decide)
      replace h := ao_ifF h (by decide)
      replace h := ao_ifF h (by decide)
      replace h := ao_ifT h rfl
      refine ao_aload_n 0 dX7_init_42 rfl rfl ?_
      refine ao_bipush (v := 10) dX7_init_43 (by decide) ?_
      obtain ⟨n14, hn14, h⟩ := ao_bind h
      obtain ⟨hb15, h⟩ := ao_some h
      refine bi_anew n14 5 dX7_init_45 (by decide) hn14 lan_X7_34 hb15.1 hb15.2 (ao_dc_nw ((mX7_init n).2.2.2.2.2.2.2.2.1 r0 x1 n14 r0 (ao_zr M n14) (ao_nw ρ n14 5 (10 : Int32).toNatClampNeg (10 : Int32).toNatClampNeg) _ h)) ?_
      exact ih.2.2.2.2.2.2.2.2.1 r0 x1 n14 r0 (ao_zr M n14) (ao_nw ρ n14 5 (10 : Int32).toNatClampNeg (10 : Int32).toNatClampNeg) _ h
    · intro r0 x1 q0 q1 M ρ y h
      replace h := ao_ifF h (by decide)
      replace h := ao_ifF h (by decide)
      replace h := ao_ifF h (by decide)
      replace h := ao_ifF h (by decide)
      replace h := ao_ifF h (by decide)
      replace h := ao_ifF h (by decide)
      replace h := ao_ifF h (by decide)
      replace h := ao_ifF h (by decide)
      replace h := ao_ifT h rfl
      obtain ⟨hk16, h⟩ := ao_some h
      refine ba_putR q1 7 7 (q := (RX7, TX7, 20)) dX7_init_48 rfl hk16 (Nat.le_of_ble_eq_true rfl) lf_X7_36 (Or.inr ⟨rfl, rfl⟩) rfl rfl rfl ?_
      exact ih.2.2.2.2.2.2.2.2.2.1 r0 x1 M (ao_r ρ q1 7 (some q0)) _ h
    · intro r0 x1 M ρ y h
      replace h := ao_ifF h (by decide)
      replace h := ao_ifF h (by decide)
      replace h := ao_ifF h (by decide)
      replace h := ao_ifF h (by decide)
      replace h := ao_ifF h (by decide)
      replace h := ao_ifF h (by decide)
      replace h := ao_ifF h (by decide)
      replace h := ao_ifF h (by decide)
      replace h := ao_ifF h (by decide)
      replace h := ao_ifT h rfl
      refine ao_iconst (v := 0) dX7_init_51 (by decide) ?_
      refine ao_istore_n 2 (lo' := [some (.ref (Γ.2.2.2 + r0)), some (.int x1), some (.int (0 : Int32))]) dX7_init_52 rfl (Nat.le_of_ble_eq_true rfl) rfl ?_
      exact ih.2.2.2.2.2.2.2.2.2.2.1 r0 x1 (0 : Int32) M ρ _ h
    · intro r0 x1 x2 M ρ y h
      replace h := ao_ifF h (by decide)
      replace h := ao_ifF h (by decide)
      replace h := ao_ifF h (by decide)
      replace h := ao_ifF h (by decide)
      replace h := ao_ifF h (by decide)
      replace h := ao_ifF h (by decide)
      replace h := ao_ifF h (by decide)
      replace h := ao_ifF h (by decide)
      replace h := ao_ifF h (by decide)
      replace h := ao_ifF h (by decide)
      replace h := ao_ifT h rfl
      refine ao_iload_n 2 dX7_init_53 rfl rfl ?_
      refine ao_bipush (v := 10) dX7_init_54 (by decide) ?_
      refine ao_icmp_ge 78 dX7_init_56 (by decide) (fun c17 => ?_) (fun c17 => ?_)
      · replace h := ao_ifT h c17
        refine ao_aload_n 0 dX7_init_78 rfl rfl ?_
        refine ao_bipush (v := 10) dX7_init_79 (by decide) ?_
        obtain ⟨n18, hn18, h⟩ := ao_bind h
        obtain ⟨hb19, h⟩ := ao_some h
        refine ba_newa n18 0 dX7_init_81 rfl (by decide) hn18 lna_0 hb19.1 hb19.2 (ao_dc_nw ((mX7_init n).2.2.2.2.2.2.2.2.2.2.2.2.2.2.1 r0 x1 x2 n18 r0 (ao_zr M n18) (ao_nw ρ n18 0 (10 : Int32).toNatClampNeg (10 : Int32).toNatClampNeg) _ h)) ?_
        exact ih.2.2.2.2.2.2.2.2.2.2.2.2.2.2.1 r0 x1 x2 n18 r0 (ao_zr M n18) (ao_nw ρ n18 0 (10 : Int32).toNatClampNeg (10 : Int32).toNatClampNeg) _ h
      · replace h := ao_ifF h c17
        refine ao_aload_n 0 dX7_init_59 rfl rfl ?_
        obtain ⟨hk20, h⟩ := ao_some h
        obtain ⟨j21, hj21, h⟩ := ao_bind h
        refine an_getR r0 7 7 (q := (RX7, TX7, 20)) dX7_init_60 rfl hk20 (Nat.le_of_ble_eq_true rfl) rfl lf_X7_36 hj21 ?_
        refine ao_iload_n 2 dX7_init_63 rfl rfl ?_
        obtain ⟨n22, hn22, h⟩ := ao_bind h
        refine ba_new n22 3 (q := (RX3, TX3, 12)) dX7_init_64 rfl hn22 lnw_X7_34 (ao_dc_nw ((mX7_init n).2.2.2.2.2.2.2.2.2.2.2.1 r0 x1 x2 n22 x2 j21 (ao_zr M n22) (ao_nw ρ n22 13 0 12) _ h)) ?_
        exact ih.2.2.2.2.2.2.2.2.2.2.2.1 r0 x1 x2 n22 x2 j21 (ao_zr M n22) (ao_nw ρ n22 13 0 12) _ h
    · intro r0 x1 x2 q0 s1 q2 M ρ y h
      replace h := ao_ifF h (by decide)
      replace h := ao_ifF h (by decide)
      replace h := ao_ifF h (by decide)
      replace h := ao_ifF h (by decide)
      replace h := ao_ifF h (by decide)
      replace h := ao_ifF h (by decide)
      replace h := ao_ifF h (by decide)
      replace h := ao_ifF h (by decide)
      replace h := ao_ifF h (by decide)
      replace h := ao_ifF h (by decide)
      replace h := ao_ifF h (by decide)
      replace h := ao_ifT h rfl
      refine ao_dup dX7_init_67 rfl ?_
      obtain ⟨p23, hp23, h⟩ := ao_bind h
      refine bi_callI q0 [] (aX3_init (d - 1) (by omega) n q0 M ρ hp23) dX7_init_68 lc_X7_40 li_X3_init rfl rfl rfl (Nat.le_of_ble_eq_true rfl) (ao_hR (by omega) (by decide)) (ao_leC (me_X3_init n q0 M ρ hp23) ((mX7_init n).2.2.2.2.2.2.2.2.2.2.2.2.1 r0 x1 x2 q0 s1 q2 p23.1 p23.2 _ h)) (ao_leS (me_X3_init n q0 M ρ hp23) ((mX7_init n).2.2.2.2.2.2.2.2.2.2.2.2.1 r0 x1 x2 q0 s1 q2 p23.1 p23.2 _ h)) ?_
      exact ih.2.2.2.2.2.2.2.2.2.2.2.2.1 r0 x1 x2 q0 s1 q2 p23.1 p23.2 _ h
    · intro r0 x1 x2 q0 s1 q2 M ρ y h
      replace h := ao_ifF h (by decide)
      replace h := ao_ifF h (by decide)
      replace h := ao_ifF h (by decide)
      replace h := ao_ifF h (by decide)
      replace h := ao_ifF h (by decide)
      replace h := ao_ifF h (by decide)
      replace h := ao_ifF h (by decide)
      replace h := ao_ifF h (by decide)
      replace h := ao_ifF h (by decide)
      replace h := ao_ifF h (by decide)
      replace h := ao_ifF h (by decide)
      replace h := ao_ifF h (by decide)
      replace h := ao_ifT h rfl
      obtain ⟨hk24, h⟩ := ao_some h
      obtain ⟨hk25, h⟩ := ao_some h
      obtain ⟨hb26, h⟩ := ao_some h
      refine bi_aast2 q2 q0 5 3 dX7_init_71 hk24 rfl rfl hk25 hb26 (by decide) ?_
      exact ih.2.2.2.2.2.2.2.2.2.2.2.2.2.1 r0 x1 x2 M (ao_r ρ q2 s1.toNatClampNeg (some q0)) _ h
    · intro r0 x1 x2 M ρ y h
      replace h := ao_ifF h (by decide)
      replace h := ao_ifF h (by decide)
      replace h := ao_ifF h (by decide)
      replace h := ao_ifF h (by decide)
      replace h := ao_ifF h (by decide)
      replace h := ao_ifF h (by decide)
      replace h := ao_ifF h (by decide)
      replace h := ao_ifF h (by decide)
      replace h := ao_ifF h (by decide)
      replace h := ao_ifF h (by decide)
      replace h := ao_ifF h (by decide)
      replace h := ao_ifF h (by decide)
      replace h := ao_ifF h (by decide)
      replace h := ao_ifT h rfl
      obtain ⟨v27, hv27⟩ : ∃ z : Int32, z = x2 + (1 : Int32) := ⟨_, rfl⟩
      replace h := ao_letD h hv27
      refine ao_iinc 2 (v := v27) (lo' := [some (.ref (Γ.2.2.2 + r0)), some (.int x1), some (.int v27)]) dX7_init_72 rfl (by rw [hv27]; rfl) (Nat.le_of_ble_eq_true rfl) rfl ?_
      refine ao_goto 53 dX7_init_75 (by decide) ?_
      exact ih.2.2.2.2.2.2.2.2.2.2.1 r0 x1 v27 M ρ _ h
    · intro r0 x1 x2 q0 q1 M ρ y h
      replace h := ao_ifF h (by decide)
      replace h := ao_ifF h (by decide)
      replace h := ao_ifF h (by decide)
      replace h := ao_ifF h (by decide)
      replace h := ao_ifF h (by decide)
      replace h := ao_ifF h (by decide)
      replace h := ao_ifF h (by decide)
      replace h := ao_ifF h (by decide)
      replace h := ao_ifF h (by decide)
      replace h := ao_ifF h (by decide)
      replace h := ao_ifF h (by decide)
      replace h := ao_ifF h (by decide)
      replace h := ao_ifF h (by decide)
      replace h := ao_ifF h (by decide)
      replace h := ao_ifT h rfl
      obtain ⟨hk28, h⟩ := ao_some h
      refine ba_putR q1 7 9 (q := (RX7, TX7, 20)) dX7_init_83 rfl hk28 (Nat.le_of_ble_eq_true rfl) lf_X7_41 (Or.inr ⟨rfl, rfl⟩) rfl rfl rfl ?_
      exact ih.2.2.2.2.2.2.2.2.2.2.2.2.2.2.2.1 r0 x1 x2 M (ao_r ρ q1 9 (some q0)) _ h
    · intro r0 x1 x2 M ρ y h
      replace h := ao_ifF h (by decide)
      replace h := ao_ifF h (by decide)
      replace h := ao_ifF h (by decide)
      replace h := ao_ifF h (by decide)
      replace h := ao_ifF h (by decide)
      replace h := ao_ifF h (by decide)
      replace h := ao_ifF h (by decide)
      replace h := ao_ifF h (by decide)
      replace h := ao_ifF h (by decide)
      replace h := ao_ifF h (by decide)
      replace h := ao_ifF h (by decide)
      replace h := ao_ifF h (by decide)
      replace h := ao_ifF h (by decide)
      replace h := ao_ifF h (by decide)
      replace h := ao_ifF h (by decide)
      replace h := ao_ifT h rfl
      refine ao_aload_n 0 dX7_init_86 rfl rfl ?_
      refine ao_bipush (v := 10) dX7_init_87 (by decide) ?_
      obtain ⟨n29, hn29, h⟩ := ao_bind h
      obtain ⟨hb30, h⟩ := ao_some h
      refine ba_newa n29 0 dX7_init_89 rfl (by decide) hn29 lna_0 hb30.1 hb30.2 (ao_dc_nw ((mX7_init n).2.2.2.2.2.2.2.2.2.2.2.2.2.2.2.2.1 r0 x1 x2 n29 r0 (ao_zr M n29) (ao_nw ρ n29 0 (10 : Int32).toNatClampNeg (10 : Int32).toNatClampNeg) _ h)) ?_
      exact ih.2.2.2.2.2.2.2.2.2.2.2.2.2.2.2.2.1 r0 x1 x2 n29 r0 (ao_zr M n29) (ao_nw ρ n29 0 (10 : Int32).toNatClampNeg (10 : Int32).toNatClampNeg) _ h
    · intro r0 x1 x2 q0 q1 M ρ y h
      replace h := ao_ifF h (by decide)
      replace h := ao_ifF h (by decide)
      replace h := ao_ifF h (by decide)
      replace h := ao_ifF h (by decide)
      replace h := ao_ifF h (by decide)
      replace h := ao_ifF h (by decide)
      replace h := ao_ifF h (by decide)
      replace h := ao_ifF h (by decide)
      replace h := ao_ifF h (by decide)
      replace h := ao_ifF h (by decide)
      replace h := ao_ifF h (by decide)
      replace h := ao_ifF h (by decide)
      replace h := ao_ifF h (by decide)
      replace h := ao_ifF h (by decide)
      replace h := ao_ifF h (by decide)
      replace h := ao_ifF h (by decide)
      replace h := ao_ifT h rfl
      obtain ⟨hk31, h⟩ := ao_some h
      refine ba_putR q1 7 10 (q := (RX7, TX7, 20)) dX7_init_91 rfl hk31 (Nat.le_of_ble_eq_true rfl) lf_X7_44 (Or.inr ⟨rfl, rfl⟩) rfl rfl rfl ?_
      exact ih.2.2.2.2.2.2.2.2.2.2.2.2.2.2.2.2.2.1 r0 x1 x2 M (ao_r ρ q1 10 (some q0)) _ h
    · intro r0 x1 x2 M ρ y h
      replace h := ao_ifF h (by decide)
      replace h := ao_ifF h (by decide)
      replace h := ao_ifF h (by decide)
      replace h := ao_ifF h (by decide)
      replace h := ao_ifF h (by decide)
      replace h := ao_ifF h (by decide)
      replace h := ao_ifF h (by decide)
      replace h := ao_ifF h (by decide)
      replace h := ao_ifF h (by decide)
      replace h := ao_ifF h (by decide)
      replace h := ao_ifF h (by decide)
      replace h := ao_ifF h (by decide)
      replace h := ao_ifF h (by decide)
      replace h := ao_ifF h (by decide)
      replace h := ao_ifF h (by decide)
      replace h := ao_ifF h (by decide)
      replace h := ao_ifF h (by decide)
      replace h := ao_ifT h rfl
      refine ao_aload_n 0 dX7_init_94 rfl rfl ?_
      refine ao_sipush (v := 200) dX7_init_95 (by decide) ?_
      obtain ⟨n32, hn32, h⟩ := ao_bind h
      obtain ⟨hb33, h⟩ := ao_some h
      refine ba_newa n32 0 dX7_init_98 rfl (by decide) hn32 lna_0 hb33.1 hb33.2 (ao_dc_nw ((mX7_init n).2.2.2.2.2.2.2.2.2.2.2.2.2.2.2.2.2.2.1 r0 x1 x2 n32 r0 (ao_zr M n32) (ao_nw ρ n32 0 (200 : Int32).toNatClampNeg (200 : Int32).toNatClampNeg) _ h)) ?_
      exact ih.2.2.2.2.2.2.2.2.2.2.2.2.2.2.2.2.2.2.1 r0 x1 x2 n32 r0 (ao_zr M n32) (ao_nw ρ n32 0 (200 : Int32).toNatClampNeg (200 : Int32).toNatClampNeg) _ h
    · intro r0 x1 x2 q0 q1 M ρ y h
      replace h := ao_ifF h (by decide)
      replace h := ao_ifF h (by decide)
      replace h := ao_ifF h (by decide)
      replace h := ao_ifF h (by decide)
      replace h := ao_ifF h (by decide)
      replace h := ao_ifF h (by decide)
      replace h := ao_ifF h (by decide)
      replace h := ao_ifF h (by decide)
      replace h := ao_ifF h (by decide)
      replace h := ao_ifF h (by decide)
      replace h := ao_ifF h (by decide)
      replace h := ao_ifF h (by decide)
      replace h := ao_ifF h (by decide)
      replace h := ao_ifF h (by decide)
      replace h := ao_ifF h (by decide)
      replace h := ao_ifF h (by decide)
      replace h := ao_ifF h (by decide)
      replace h := ao_ifF h (by decide)
      replace h := ao_ifT h rfl
      obtain ⟨hk34, h⟩ := ao_some h
      refine ba_putR q1 7 12 (q := (RX7, TX7, 20)) dX7_init_100 rfl hk34 (Nat.le_of_ble_eq_true rfl) lf_X7_47 (Or.inr ⟨rfl, rfl⟩) rfl rfl rfl ?_
      exact ih.2.2.2.2.2.2.2.2.2.2.2.2.2.2.2.2.2.2.2 r0 x1 x2 M (ao_r ρ q1 12 (some q0)) _ h
    · intro r0 x1 x2 M ρ y h
      replace h := ao_ifF h (by decide)
      replace h := ao_ifF h (by decide)
      replace h := ao_ifF h (by decide)
      replace h := ao_ifF h (by decide)
      replace h := ao_ifF h (by decide)
      replace h := ao_ifF h (by decide)
      replace h := ao_ifF h (by decide)
      replace h := ao_ifF h (by decide)
      replace h := ao_ifF h (by decide)
      replace h := ao_ifF h (by decide)
      replace h := ao_ifF h (by decide)
      replace h := ao_ifF h (by decide)
      replace h := ao_ifF h (by decide)
      replace h := ao_ifF h (by decide)
      replace h := ao_ifF h (by decide)
      replace h := ao_ifF h (by decide)
      replace h := ao_ifF h (by decide)
      replace h := ao_ifF h (by decide)
      replace h := ao_ifF h (by decide)
      replace h := ao_ifT h rfl
      cases h
      exact ao_return dX7_init_103 rfl ⟨rfl, rfl⟩
theorem me_X7_init (n : Nat) (r0 : Nat) (x1 : Int32) (M : ao_M) (ρ : ao_H) {y : ao_S} (h : gX7_init n r0 x1 M ρ = some y) : ao_le ρ y.2 := (mX7_init n).1 r0 x1 M ρ y h
set_option maxRecDepth 100000 in
set_option maxHeartbeats 4000000 in
theorem aX7_init {Γ : ao_C} (d : Nat) (hd : 2 ≤ d) (n : Nat) (r0 : Nat) (x1 : Int32) (M : ao_M) (ρ : ao_H) {y : ao_S} (h : gX7_init n r0 x1 M ρ = some y) : ao_A Γ uX7_init d (ao_dc ρ y.2) (ao_ds ρ y.2) [.ref (Γ.2.2.2 + r0), .int x1] (M, ρ) (ao_QV y) := by
  refine ao_of (by decide) (ao_cat1 (Nat.le_of_ble_eq_true rfl)) (Nat.le_of_ble_eq_true rfl) ?_
  show ao_W Γ uX7_init (ao_rm d (ao_dc ρ y.2) (ao_ds ρ y.2)) (ao_Q Γ (ao_QV y) (ao_dc ρ y.2) (ao_ds ρ y.2)) (ao_dc ρ y.2) (ao_ds ρ y.2) 0 [some (.ref (Γ.2.2.2 + r0)), some (.int x1), none] [] (M, ρ)
  exact (wX7_init d hd _ _ n).1 r0 x1 M ρ y h
