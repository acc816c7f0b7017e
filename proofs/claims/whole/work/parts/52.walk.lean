abbrev uX7_isLeft : ao_Mi := (yX7_isLeft, cX7_isLeft, 1, (some .boolean), [])
def fX7_isLeft : Nat → Nat → Nat →  ao_M → ao_H → Option (Int32 × ao_M)
  | 0, _, _, _, _ => none
  | n + 1, pc, r0, M, ρ =>
    if pc = 0 then
      if ρ.2.1 r0 = 17 then
      if (M r0 2) = (1 : Int32) then
        fX7_isLeft n 24 r0 M ρ
      else
        if (M r0 2) = (2 : Int32) then
          fX7_isLeft n 24 r0 M ρ
        else
          if (M r0 2) = (3 : Int32) then
            fX7_isLeft n 24 r0 M ρ
          else
            some ((0 : Int32), M)
      else none
    else if pc = 24 then
      some ((1 : Int32), M)
    else none
def gX7_isLeft (n : Nat) (r0 : Nat) (M : ao_M) (ρ : ao_H) : Option (Int32 × ao_M) := fX7_isLeft n 0 r0 M ρ
set_option maxRecDepth 100000 in
set_option maxHeartbeats 4000000 in
theorem wX7_isLeft {Γ : ao_C} {ρ : ao_H} (d : Nat) (hd : 0 ≤ d) : ∀ n : Nat, (∀ (r0 : Nat) (M : ao_M) (y : Int32 × ao_M), fX7_isLeft n 0 r0 M ρ = some y → ao_W Γ uX7_isLeft (ao_rm d 0 0) (ao_Q Γ (ao_PI ρ y) 0 0) 0 0 0 [some (.ref (Γ.2.2.2 + r0))] [] (M, ρ)) ∧ (∀ (r0 : Nat) (M : ao_M) (y : Int32 × ao_M), fX7_isLeft n 24 r0 M ρ = some y → ao_W Γ uX7_isLeft (ao_rm d 0 0) (ao_Q Γ (ao_PI ρ y) 0 0) 0 0 24 [some (.ref (Γ.2.2.2 + r0))] [] (M, ρ)) := by
  intro n
  induction n with
  | zero => exact ⟨fun _ _ _ h => ao_no h, fun _ _ _ h => ao_no h⟩
  | succ n ih =>
    refine ⟨?_, ?_⟩
    · intro r0 M y h
      replace h := ao_ifT h rfl
      refine ao_aload_n 0 dX7_isLeft_0 rfl rfl ?_
      obtain ⟨hk1, h⟩ := ao_some h
      refine an_getI r0 7 2 (q := (RX7, TX7, 20)) dX7_isLeft_1 rfl hk1 (Nat.le_of_ble_eq_true rfl) rfl lf_X7_24 ?_
      refine ao_iconst (v := 1) dX7_isLeft_4 (by decide) ?_
      refine ao_icmp_eq 24 dX7_isLeft_5 (by decide) (fun c2 => ?_) (fun c2 => ?_)
      · replace h := ao_ifT h c2
        exact ih.2 r0 M _ h
      · replace h := ao_ifF h c2
        refine ao_aload_n 0 dX7_isLeft_8 rfl rfl ?_
        refine an_getI r0 7 2 (q := (RX7, TX7, 20)) dX7_isLeft_9 rfl hk1 (Nat.le_of_ble_eq_true rfl) rfl lf_X7_24 ?_
        refine ao_iconst (v := 2) dX7_isLeft_12 (by decide) ?_
        refine ao_icmp_eq 24 dX7_isLeft_13 (by decide) (fun c3 => ?_) (fun c3 => ?_)
        · replace h := ao_ifT h c3
          exact ih.2 r0 M _ h
        · replace h := ao_ifF h c3
          refine ao_aload_n 0 dX7_isLeft_16 rfl rfl ?_
          refine an_getI r0 7 2 (q := (RX7, TX7, 20)) dX7_isLeft_17 rfl hk1 (Nat.le_of_ble_eq_true rfl) rfl lf_X7_24 ?_
          refine ao_iconst (v := 3) dX7_isLeft_20 (by decide) ?_
          refine ao_icmp_ne 28 dX7_isLeft_21 (by decide) (fun c4 => ?_) (fun c4 => ?_)
          · replace h := ao_ifF h c4
            refine ao_iconst (v := 0) dX7_isLeft_28 (by decide) ?_
            cases h
            exact ao_ireturn dX7_isLeft_29 rfl rfl ⟨rfl, rfl⟩
          · replace h := ao_ifT h c4
            exact ih.2 r0 M _ h
    · intro r0 M y h
      replace h := ao_ifF h (by decide)
      replace h := ao_ifT h rfl
      refine ao_iconst (v := 1) dX7_isLeft_24 (by decide) ?_
      refine ao_goto 29 dX7_isLeft_25 (by decide) ?_
      cases h
      exact ao_ireturn dX7_isLeft_29 rfl rfl ⟨rfl, rfl⟩
set_option maxRecDepth 100000 in
set_option maxHeartbeats 4000000 in
theorem aX7_isLeft {Γ : ao_C} (d : Nat) (hd : 0 ≤ d) (n : Nat) (r0 : Nat) (M : ao_M) (ρ : ao_H) {y : Int32 × ao_M} (h : gX7_isLeft n r0 M ρ = some y) : ao_A Γ uX7_isLeft d 0 0 [.ref (Γ.2.2.2 + r0)] (M, ρ) (ao_PI ρ y) := by
  refine ao_of (by decide) (ao_cat1 (Nat.le_of_ble_eq_true rfl)) (Nat.le_of_ble_eq_true rfl) ?_
  show ao_W Γ uX7_isLeft (ao_rm d 0 0) (ao_Q Γ (ao_PI ρ y) 0 0) 0 0 0 [some (.ref (Γ.2.2.2 + r0))] [] (M, ρ)
  exact (wX7_isLeft d hd n).1 r0 M y h

abbrev uX7_push : ao_Mi := (yX7_push, cX7_push, 2, none, [])
def gX7_push (r0 : Nat) (x1 : Int32) (M : ao_M) (ρ : ao_H) : Option (ao_M) :=
  if ρ.2.1 r0 = 17 then
  if (M r0 5) < 0 then
    some M
  else
    if (64 : Int32) ≤ (M r0 5) then
      some M
    else
      (ρ.1 r0 4).bind fun j4 =>
      if ρ.2.1 j4 = 0 then
      if ¬ ((M r0 5) < 0 ∨ ρ.2.2.1 j4 ≤ (M r0 5).toNatClampNeg) then
      ao_let (ao_u M j4 (M r0 5).toNatClampNeg x1) fun M7 =>
      ao_let (ao_u M7 r0 5 ((M7 r0 5) + (1 : Int32))) fun M8 =>
      some M8
      else none
      else none
  else none
set_option maxRecDepth 100000 in
set_option maxHeartbeats 4000000 in
theorem aX7_push {Γ : ao_C} (d : Nat) (hd : 0 ≤ d) (r0 : Nat) (x1 : Int32) (M : ao_M) (ρ : ao_H) {y : ao_M} (h : gX7_push r0 x1 M ρ = some y) : ao_A Γ uX7_push d 0 0 [.ref (Γ.2.2.2 + r0), .int x1] (M, ρ) (ao_PV ρ y) := by
  refine ao_of (by decide) (ao_cat1 (Nat.le_of_ble_eq_true rfl)) (Nat.le_of_ble_eq_true rfl) ?_
  show ao_W Γ uX7_push (ao_rm d 0 0) (ao_Q Γ (ao_PV ρ y) 0 0) 0 0 0 [some (.ref (Γ.2.2.2 + r0)), some (.int x1)] [] (M, ρ)
  unfold gX7_push at h
  refine ao_aload_n 0 dX7_push_0 rfl rfl ?_
  obtain ⟨hk1, h⟩ := ao_some h
  refine an_getI r0 7 5 (q := (RX7, TX7, 20)) dX7_push_1 rfl hk1 (Nat.le_of_ble_eq_true rfl) rfl lf_X7_53 ?_
  refine ao_if_lt 36 dX7_push_4 (by decide) (fun c2 => ?_) (fun c2 => ?_)
  · replace h := ao_ifT h c2
    cases h
    exact ao_return dX7_push_36 rfl ⟨rfl, rfl⟩
  · replace h := ao_ifF h c2
    refine ao_aload_n 0 dX7_push_7 rfl rfl ?_
    refine an_getI r0 7 5 (q := (RX7, TX7, 20)) dX7_push_8 rfl hk1 (Nat.le_of_ble_eq_true rfl) rfl lf_X7_53 ?_
    refine ao_bipush (v := 64) dX7_push_11 (by decide) ?_
    refine ao_icmp_ge 36 dX7_push_13 (by decide) (fun c3 => ?_) (fun c3 => ?_)
    · replace h := ao_ifT h c3
      cases h
      exact ao_return dX7_push_36 rfl ⟨rfl, rfl⟩
    · replace h := ao_ifF h c3
      refine ao_aload_n 0 dX7_push_16 rfl rfl ?_
      obtain ⟨j4, hj4, h⟩ := ao_bind h
      refine an_getR r0 7 4 (q := (RX7, TX7, 20)) dX7_push_17 rfl hk1 (Nat.le_of_ble_eq_true rfl) rfl lf_X7_27 hj4 ?_
      refine ao_aload_n 0 dX7_push_20 rfl rfl ?_
      refine an_getI r0 7 5 (q := (RX7, TX7, 20)) dX7_push_21 rfl hk1 (Nat.le_of_ble_eq_true rfl) rfl lf_X7_53 ?_
      refine ao_iload_n 1 dX7_push_24 rfl rfl ?_
      obtain ⟨hk5, h⟩ := ao_some h
      obtain ⟨hb6, h⟩ := ao_some h
      refine an_iastore j4 dX7_push_25 hk5 hb6 (fun M7 hM7 => ?_)
      replace h := ao_letD h hM7
      refine ao_aload_n 0 dX7_push_26 rfl rfl ?_
      refine ao_dup dX7_push_27 rfl ?_
      refine an_getI r0 7 5 (q := (RX7, TX7, 20)) dX7_push_28 rfl hk1 (Nat.le_of_ble_eq_true rfl) rfl lf_X7_53 ?_
      refine ao_iconst (v := 1) dX7_push_31 (by decide) ?_
      refine ao_iadd dX7_push_32 ?_
      refine an_putI r0 7 5 (q := (RX7, TX7, 20)) dX7_push_33 rfl hk1 (Nat.le_of_ble_eq_true rfl) lf_X7_53 rfl rfl rfl rfl (fun M8 hM8 => ?_)
      replace h := ao_letD h hM8
      cases h
      exact ao_return dX7_push_36 rfl ⟨rfl, rfl⟩

abbrev uX7_pop : ao_Mi := (yX7_pop, cX7_pop, 1, (some .int), [])
def gX7_pop (r0 : Nat) (M : ao_M) (ρ : ao_H) : Option (Int32 × ao_M) :=
  if ρ.2.1 r0 = 17 then
  if (M r0 5) ≤ 0 then
    some ((0 : Int32), M)
  else
    if (M r0 5) ≤ (64 : Int32) then
      ao_let (ao_u M r0 5 ((M r0 5) - (1 : Int32))) fun M4 =>
      (ρ.1 r0 4).bind fun j5 =>
      if ρ.2.1 j5 = 0 then
      if ¬ ((M4 r0 5) < 0 ∨ ρ.2.2.1 j5 ≤ (M4 r0 5).toNatClampNeg) then
      some ((M4 j5 (M4 r0 5).toNatClampNeg), M4)
      else none
      else none
    else
      some ((0 : Int32), M)
  else none
set_option maxRecDepth 100000 in
set_option maxHeartbeats 4000000 in
theorem aX7_pop {Γ : ao_C} (d : Nat) (hd : 0 ≤ d) (r0 : Nat) (M : ao_M) (ρ : ao_H) {y : Int32 × ao_M} (h : gX7_pop r0 M ρ = some y) : ao_A Γ uX7_pop d 0 0 [.ref (Γ.2.2.2 + r0)] (M, ρ) (ao_PI ρ y) := by
  refine ao_of (by decide) (ao_cat1 (Nat.le_of_ble_eq_true rfl)) (Nat.le_of_ble_eq_true rfl) ?_
  show ao_W Γ uX7_pop (ao_rm d 0 0) (ao_Q Γ (ao_PI ρ y) 0 0) 0 0 0 [some (.ref (Γ.2.2.2 + r0))] [] (M, ρ)
  unfold gX7_pop at h
  refine ao_aload_n 0 dX7_pop_0 rfl rfl ?_
  obtain ⟨hk1, h⟩ := ao_some h
  refine an_getI r0 7 5 (q := (RX7, TX7, 20)) dX7_pop_1 rfl hk1 (Nat.le_of_ble_eq_true rfl) rfl lf_X7_53 ?_
  refine ao_if_le 16 dX7_pop_4 (by decide) (fun c2 => ?_) (fun c2 => ?_)
  · replace h := ao_ifT h c2
    refine ao_iconst (v := 0) dX7_pop_16 (by decide) ?_
    cases h
    exact ao_ireturn dX7_pop_17 rfl rfl ⟨rfl, rfl⟩
  · replace h := ao_ifF h c2
    refine ao_aload_n 0 dX7_pop_7 rfl rfl ?_
    refine an_getI r0 7 5 (q := (RX7, TX7, 20)) dX7_pop_8 rfl hk1 (Nat.le_of_ble_eq_true rfl) rfl lf_X7_53 ?_
    refine ao_bipush (v := 64) dX7_pop_11 (by decide) ?_
    refine ao_icmp_le 18 dX7_pop_13 (by decide) (fun c3 => ?_) (fun c3 => ?_)
    · replace h := ao_ifT h c3
      refine ao_aload_n 0 dX7_pop_18 rfl rfl ?_
      refine ao_dup dX7_pop_19 rfl ?_
      refine an_getI r0 7 5 (q := (RX7, TX7, 20)) dX7_pop_20 rfl hk1 (Nat.le_of_ble_eq_true rfl) rfl lf_X7_53 ?_
      refine ao_iconst (v := 1) dX7_pop_23 (by decide) ?_
      refine ao_isub dX7_pop_24 ?_
      refine an_putI r0 7 5 (q := (RX7, TX7, 20)) dX7_pop_25 rfl hk1 (Nat.le_of_ble_eq_true rfl) lf_X7_53 rfl rfl rfl rfl (fun M4 hM4 => ?_)
      replace h := ao_letD h hM4
      refine ao_aload_n 0 dX7_pop_28 rfl rfl ?_
      obtain ⟨j5, hj5, h⟩ := ao_bind h
      refine an_getR r0 7 4 (q := (RX7, TX7, 20)) dX7_pop_29 rfl hk1 (Nat.le_of_ble_eq_true rfl) rfl lf_X7_27 hj5 ?_
      refine ao_aload_n 0 dX7_pop_32 rfl rfl ?_
      refine an_getI r0 7 5 (q := (RX7, TX7, 20)) dX7_pop_33 rfl hk1 (Nat.le_of_ble_eq_true rfl) rfl lf_X7_53 ?_
      obtain ⟨hk6, h⟩ := ao_some h
      obtain ⟨hb7, h⟩ := ao_some h
      refine an_iaload j5 dX7_pop_36 hk6 hb7 ?_
      cases h
      exact ao_ireturn dX7_pop_37 rfl rfl ⟨rfl, rfl⟩
    · replace h := ao_ifF h c3
      refine ao_iconst (v := 0) dX7_pop_16 (by decide) ?_
      cases h
      exact ao_ireturn dX7_pop_17 rfl rfl ⟨rfl, rfl⟩

abbrev uX7_level : ao_Mi := (yX7_level, cX7_level, 2, (some (.object "AsOneHouse$Level")), [])
def fX7_level : Nat → Nat → Nat → Int32 → Int32 → Nat →  ao_M → ao_H → Option (Nat × ao_M)
  | 0, _, _, _, _, _, _, _ => none
  | n + 1, pc, r0, x1, s0, q1, M, ρ =>
    if pc = 0 then
      if ρ.2.1 r0 = 17 then
      (ρ.1 r0 7).bind fun j2 =>
      if 0 ≤ x1 then
        if x1 < (10 : Int32) then
          fX7_level n 24 r0 x1 x1 j2 M ρ
        else
          fX7_level n 24 r0 x1 (9 : Int32) j2 M ρ
      else
        fX7_level n 24 r0 x1 (0 : Int32) j2 M ρ
      else none
    else if pc = 24 then
      if ρ.2.1 q1 = 5 then
      if ¬ (s0 < 0 ∨ ρ.2.2.1 q1 ≤ s0.toNatClampNeg) then
      (ρ.1 q1 s0.toNatClampNeg).bind fun j7 =>
      some (j7, M)
      else none
      else none
    else none
def gX7_level (n : Nat) (r0 : Nat) (x1 : Int32) (M : ao_M) (ρ : ao_H) : Option (Nat × ao_M) := fX7_level n 0 r0 x1 0 0 M ρ
set_option maxRecDepth 100000 in
set_option maxHeartbeats 4000000 in
theorem wX7_level {Γ : ao_C} {ρ : ao_H} (d : Nat) (hd : 0 ≤ d) : ∀ n : Nat, (∀ (r0 : Nat) (x1 : Int32) (M : ao_M) (y : Nat × ao_M), fX7_level n 0 r0 x1 0 0 M ρ = some y → ao_W Γ uX7_level (ao_rm d 0 0) (ao_Q Γ (ao_PR Γ ρ y) 0 0) 0 0 0 [some (.ref (Γ.2.2.2 + r0)), some (.int x1)] [] (M, ρ)) ∧ (∀ (r0 : Nat) (x1 : Int32) (s0 : Int32) (q1 : Nat) (M : ao_M) (y : Nat × ao_M), fX7_level n 24 r0 x1 s0 q1 M ρ = some y → ao_W Γ uX7_level (ao_rm d 0 0) (ao_Q Γ (ao_PR Γ ρ y) 0 0) 0 0 24 [some (.ref (Γ.2.2.2 + r0)), some (.int x1)] [.int s0, .ref (Γ.2.2.2 + q1)] (M, ρ)) := by
  intro n
  induction n with
  | zero => exact ⟨fun _ _ _ _ h => ao_no h, fun _ _ _ _ _ _ h => ao_no h⟩
  | succ n ih =>
    refine ⟨?_, ?_⟩
    · intro r0 x1 M y h
      replace h := ao_ifT h rfl
      refine ao_aload_n 0 dX7_level_0 rfl rfl ?_
      obtain ⟨hk1, h⟩ := ao_some h
      obtain ⟨j2, hj2, h⟩ := ao_bind h
      refine an_getR r0 7 7 (q := (RX7, TX7, 20)) dX7_level_1 rfl hk1 (Nat.le_of_ble_eq_true rfl) rfl lf_X7_36 hj2 ?_
      refine ao_iload_n 1 dX7_level_4 rfl rfl ?_
      refine ao_if_ge 12 dX7_level_5 (by decide) (fun c3 => ?_) (fun c3 => ?_)
      · replace h := ao_ifT h c3
        refine ao_iload_n 1 dX7_level_12 rfl rfl ?_
        refine ao_bipush (v := 10) dX7_level_13 (by decide) ?_
        refine ao_icmp_lt 23 dX7_level_15 (by decide) (fun c4 => ?_) (fun c4 => ?_)
        · replace h := ao_ifT h c4
          refine ao_iload_n 1 dX7_level_23 rfl rfl ?_
          exact ih.2 r0 x1 x1 j2 M _ h
        · replace h := ao_ifF h c4
          refine ao_bipush (v := 9) dX7_level_18 (by decide) ?_
          refine ao_goto 24 dX7_level_20 (by decide) ?_
          exact ih.2 r0 x1 (9 : Int32) j2 M _ h
      · replace h := ao_ifF h c3
        refine ao_iconst (v := 0) dX7_level_8 (by decide) ?_
        refine ao_goto 24 dX7_level_9 (by decide) ?_
        exact ih.2 r0 x1 (0 : Int32) j2 M _ h
    · intro r0 x1 s0 q1 M y h
      replace h := ao_ifF h (by decide)
      replace h := ao_ifT h rfl
      obtain ⟨hk5, h⟩ := ao_some h
      obtain ⟨hb6, h⟩ := ao_some h
      obtain ⟨j7, hj7, h⟩ := ao_bind h
      refine an_aaload q1 5 dX7_level_24 hk5 (by decide) hb6 hj7 ?_
      cases h
      exact ao_areturn dX7_level_25 rfl (Or.inl ⟨_, rfl⟩) ⟨rfl, rfl⟩
set_option maxRecDepth 100000 in
set_option maxHeartbeats 4000000 in
theorem aX7_level {Γ : ao_C} (d : Nat) (hd : 0 ≤ d) (n : Nat) (r0 : Nat) (x1 : Int32) (M : ao_M) (ρ : ao_H) {y : Nat × ao_M} (h : gX7_level n r0 x1 M ρ = some y) : ao_A Γ uX7_level d 0 0 [.ref (Γ.2.2.2 + r0), .int x1] (M, ρ) (ao_PR Γ ρ y) := by
  refine ao_of (by decide) (ao_cat1 (Nat.le_of_ble_eq_true rfl)) (Nat.le_of_ble_eq_true rfl) ?_
  show ao_W Γ uX7_level (ao_rm d 0 0) (ao_Q Γ (ao_PR Γ ρ y) 0 0) 0 0 0 [some (.ref (Γ.2.2.2 + r0)), some (.int x1)] [] (M, ρ)
  exact (wX7_level d hd n).1 r0 x1 M y h

abbrev uX7_innermost : ao_Mi := (yX7_innermost, cX7_innermost, 1, (some (.object "AsOneHouse$Level")), [])
def gX7_innermost (n : Nat) (r0 : Nat) (M : ao_M) (ρ : ao_H) : Option (Nat × ao_M) :=
  if ρ.2.1 r0 = 17 then
  (gX7_level n r0 ((M r0 8) - (1 : Int32)) M ρ).bind fun p2 =>
  some (p2.1, p2.2)
  else none
set_option maxRecDepth 100000 in
set_option maxHeartbeats 4000000 in
theorem aX7_innermost {Γ : ao_C} (d : Nat) (hd : 1 ≤ d) (n : Nat) (r0 : Nat) (M : ao_M) (ρ : ao_H) {y : Nat × ao_M} (h : gX7_innermost n r0 M ρ = some y) : ao_A Γ uX7_innermost d 0 0 [.ref (Γ.2.2.2 + r0)] (M, ρ) (ao_PR Γ ρ y) := by
  refine ao_of (by decide) (ao_cat1 (Nat.le_of_ble_eq_true rfl)) (Nat.le_of_ble_eq_true rfl) ?_
  show ao_W Γ uX7_innermost (ao_rm d 0 0) (ao_Q Γ (ao_PR Γ ρ y) 0 0) 0 0 0 [some (.ref (Γ.2.2.2 + r0))] [] (M, ρ)
  unfold gX7_innermost at h
  refine ao_aload_n 0 dX7_innermost_0 rfl rfl ?_
  refine ao_aload_n 0 dX7_innermost_1 rfl rfl ?_
  obtain ⟨hk1, h⟩ := ao_some h
  refine an_getI r0 7 8 (q := (RX7, TX7, 20)) dX7_innermost_2 rfl hk1 (Nat.le_of_ble_eq_true rfl) rfl lf_X7_62 ?_
  refine ao_iconst (v := 1) dX7_innermost_5 (by decide) ?_
  refine ao_isub dX7_innermost_6 ?_
  obtain ⟨p2, hp2, h⟩ := ao_bind h
  refine an_callVr r0 7 (q := (RX7, TX7, 20)) [.int ((M r0 8) - (1 : Int32))] (aX7_level (d - 1) (by omega) _ r0 ((M r0 8) - (1 : Int32)) M ρ hp2) dX7_innermost_7 lc_X7_89 li_X7_level ls_X7_level rfl hk1 rfl rfl (Nat.le_of_ble_eq_true rfl) (ao_hR (by omega) (by decide)) ?_
  cases h
  exact ao_areturn dX7_innermost_10 rfl (Or.inl ⟨_, rfl⟩) ⟨rfl, rfl⟩

abbrev uX7_enterLevel : ao_Mi := (yX7_enterLevel, cX7_enterLevel, 3, none, [])
def gX7_enterLevel (n : Nat) (r0 : Nat) (x1 : Int32) (M : ao_M) (ρ : ao_H) : Option (ao_M) :=
  if ρ.2.1 r0 = 17 then
  if (M r0 8) < 0 then
    some M
  else
    if (M r0 8) < (10 : Int32) then
      (gX7_level n r0 (M r0 8) M ρ).bind fun p4 =>
      if ρ.2.1 p4.1 = 13 then
      (gX3_forgetReads p4.1 p4.2 ρ).bind fun p6 =>
      (gX3_forgetWrites p4.1 p6 ρ).bind fun p7 =>
      ao_let (ao_u p7 p4.1 8 x1) fun M8 =>
      ao_let (ao_u M8 p4.1 9 (0 : Int32)) fun M9 =>
      ao_let (ao_u M9 p4.1 10 (M9 r0 13)) fun M10 =>
      ao_let (ao_u M10 p4.1 11 (M10 r0 11)) fun M11 =>
      (ρ.1 r0 6).bind fun j12 =>
      (ρ.1 p4.1 7).bind fun j13 =>
      if ρ.2.1 j12 = 0 then
      if ρ.2.1 j13 = 0 then
      if ¬ (0 : Int32) < 0 ∧ ¬ (0 : Int32) < 0 ∧ ¬ (26 : Int32) < 0 ∧ (0 : Int32).toNatClampNeg + (26 : Int32).toNatClampNeg ≤ ρ.2.2.1 j12 ∧ (0 : Int32).toNatClampNeg + (26 : Int32).toNatClampNeg ≤ ρ.2.2.1 j13 then
      ao_let (ao_cp M11 j12 j13 (0 : Int32).toNatClampNeg (0 : Int32).toNatClampNeg (26 : Int32).toNatClampNeg) fun M17 =>
      ao_let (ao_u M17 r0 8 ((M17 r0 8) + (1 : Int32))) fun M18 =>
      some M18
      else none
      else none
      else none
      else none
    else
      some M
  else none
set_option maxRecDepth 100000 in
set_option maxHeartbeats 4000000 in
theorem aX7_enterLevel {Γ : ao_C} (d : Nat) (hd : 1 ≤ d) (n : Nat) (r0 : Nat) (x1 : Int32) (M : ao_M) (ρ : ao_H) {y : ao_M} (h : gX7_enterLevel n r0 x1 M ρ = some y) : ao_A Γ uX7_enterLevel d 0 0 [.ref (Γ.2.2.2 + r0), .int x1] (M, ρ) (ao_PV ρ y) := by
  refine ao_of (by decide) (ao_cat1 (Nat.le_of_ble_eq_true rfl)) (Nat.le_of_ble_eq_true rfl) ?_
  show ao_W Γ uX7_enterLevel (ao_rm d 0 0) (ao_Q Γ (ao_PV ρ y) 0 0) 0 0 0 [some (.ref (Γ.2.2.2 + r0)), some (.int x1), none] [] (M, ρ)
  unfold gX7_enterLevel at h
  refine ao_aload_n 0 dX7_enterLevel_0 rfl rfl ?_
  obtain ⟨hk1, h⟩ := ao_some h
  refine an_getI r0 7 8 (q := (RX7, TX7, 20)) dX7_enterLevel_1 rfl hk1 (Nat.le_of_ble_eq_true rfl) rfl lf_X7_62 ?_
  refine ao_if_lt 16 dX7_enterLevel_4 (by decide) (fun c2 => ?_) (fun c2 => ?_)
  · replace h := ao_ifT h c2
    cases h
    exact ao_return dX7_enterLevel_16 rfl ⟨rfl, rfl⟩
  · replace h := ao_ifF h c2
    refine ao_aload_n 0 dX7_enterLevel_7 rfl rfl ?_
    refine an_getI r0 7 8 (q := (RX7, TX7, 20)) dX7_enterLevel_8 rfl hk1 (Nat.le_of_ble_eq_true rfl) rfl lf_X7_62 ?_
    refine ao_bipush (v := 10) dX7_enterLevel_11 (by decide) ?_
    refine ao_icmp_lt 17 dX7_enterLevel_13 (by decide) (fun c3 => ?_) (fun c3 => ?_)
    · replace h := ao_ifT h c3
      refine ao_aload_n 0 dX7_enterLevel_17 rfl rfl ?_
      refine ao_aload_n 0 dX7_enterLevel_18 rfl rfl ?_
      refine an_getI r0 7 8 (q := (RX7, TX7, 20)) dX7_enterLevel_19 rfl hk1 (Nat.le_of_ble_eq_true rfl) rfl lf_X7_62 ?_
      obtain ⟨p4, hp4, h⟩ := ao_bind h
      refine an_callVr r0 7 (q := (RX7, TX7, 20)) [.int (M r0 8)] (aX7_level (d - 1) (by omega) _ r0 (M r0 8) M ρ hp4) dX7_enterLevel_22 lc_X7_89 li_X7_level ls_X7_level rfl hk1 rfl rfl (Nat.le_of_ble_eq_true rfl) (ao_hR (by omega) (by decide)) ?_
      refine ao_astore_n 2 (lo' := [some (.ref (Γ.2.2.2 + r0)), some (.int x1), some (.ref (Γ.2.2.2 + p4.1))]) dX7_enterLevel_25 rfl (Nat.le_of_ble_eq_true rfl) rfl ?_
      refine ao_aload_n 2 dX7_enterLevel_26 rfl rfl ?_
      obtain ⟨hk5, h⟩ := ao_some h
      obtain ⟨p6, hp6, h⟩ := ao_bind h
      refine an_callVv p4.1 3 (q := (RX3, TX3, 12)) [] (aX3_forgetReads (d - 1) (by omega) p4.1 p4.2 ρ hp6) dX7_enterLevel_27 lc_X7_93 li_X3_forgetReads ls_X3_forgetReads rfl hk5 rfl rfl (Nat.le_of_ble_eq_true rfl) (ao_hR (by omega) (by decide)) ?_
      refine ao_aload_n 2 dX7_enterLevel_30 rfl rfl ?_
      obtain ⟨p7, hp7, h⟩ := ao_bind h
      refine an_callVv p4.1 3 (q := (RX3, TX3, 12)) [] (aX3_forgetWrites (d - 1) (by omega) p4.1 p6 ρ hp7) dX7_enterLevel_31 lc_X7_96 li_X3_forgetWrites ls_X3_forgetWrites rfl hk5 rfl rfl (Nat.le_of_ble_eq_true rfl) (ao_hR (by omega) (by decide)) ?_
      refine ao_aload_n 2 dX7_enterLevel_34 rfl rfl ?_
      refine ao_iload_n 1 dX7_enterLevel_35 rfl rfl ?_
      refine an_putI p4.1 3 8 (q := (RX3, TX3, 12)) dX7_enterLevel_36 rfl hk5 (Nat.le_of_ble_eq_true rfl) lf_X7_99 rfl rfl rfl rfl (fun M8 hM8 => ?_)
      replace h := ao_letD h hM8
      refine ao_aload_n 2 dX7_enterLevel_39 rfl rfl ?_
      refine ao_iconst (v := 0) dX7_enterLevel_40 (by decide) ?_
      refine an_putI p4.1 3 9 (q := (RX3, TX3, 12)) dX7_enterLevel_41 rfl hk5 (Nat.le_of_ble_eq_true rfl) lf_X7_102 rfl rfl rfl rfl (fun M9 hM9 => ?_)
      replace h := ao_letD h hM9
      refine ao_aload_n 2 dX7_enterLevel_44 rfl rfl ?_
      refine ao_aload_n 0 dX7_enterLevel_45 rfl rfl ?_
      refine an_getI r0 7 13 (q := (RX7, TX7, 20)) dX7_enterLevel_46 rfl hk1 (Nat.le_of_ble_eq_true rfl) rfl lf_X7_68 ?_
      refine an_putI p4.1 3 10 (q := (RX3, TX3, 12)) dX7_enterLevel_49 rfl hk5 (Nat.le_of_ble_eq_true rfl) lf_X7_106 rfl rfl rfl rfl (fun M10 hM10 => ?_)
      replace h := ao_letD h hM10
      refine ao_aload_n 2 dX7_enterLevel_52 rfl rfl ?_
      refine ao_aload_n 0 dX7_enterLevel_53 rfl rfl ?_
      refine an_getI r0 7 11 (q := (RX7, TX7, 20)) dX7_enterLevel_54 rfl hk1 (Nat.le_of_ble_eq_true rfl) rfl lf_X7_65 ?_
      refine an_putI p4.1 3 11 (q := (RX3, TX3, 12)) dX7_enterLevel_57 rfl hk5 (Nat.le_of_ble_eq_true rfl) lf_X7_109 rfl rfl rfl rfl (fun M11 hM11 => ?_)
      replace h := ao_letD h hM11
      refine ao_aload_n 0 dX7_enterLevel_60 rfl rfl ?_
      obtain ⟨j12, hj12, h⟩ := ao_bind h
      refine an_getR r0 7 6 (q := (RX7, TX7, 20)) dX7_enterLevel_61 rfl hk1 (Nat.le_of_ble_eq_true rfl) rfl lf_X7_31 hj12 ?_
      refine ao_iconst (v := 0) dX7_enterLevel_64 (by decide) ?_
      refine ao_aload_n 2 dX7_enterLevel_65 rfl rfl ?_
      obtain ⟨j13, hj13, h⟩ := ao_bind h
      refine an_getR p4.1 3 7 (q := (RX3, TX3, 12)) dX7_enterLevel_66 rfl hk5 (Nat.le_of_ble_eq_true rfl) rfl lf_X7_112 hj13 ?_
      refine ao_iconst (v := 0) dX7_enterLevel_69 (by decide) ?_
      refine ao_bipush (v := 26) dX7_enterLevel_70 (by decide) ?_
      obtain ⟨hk14, h⟩ := ao_some h
      obtain ⟨hk15, h⟩ := ao_some h
      obtain ⟨hc16, h⟩ := ao_some h
      refine an_copy j12 j13 dX7_enterLevel_72 lcp_X7_113 hk14 hk15 hc16 (Nat.le_of_ble_eq_true rfl) (ao_cpR (by omega)) (fun M17 hM17 => ?_)
      replace h := ao_letD h hM17
      refine ao_aload_n 0 dX7_enterLevel_75 rfl rfl ?_
      refine ao_dup dX7_enterLevel_76 rfl ?_
      refine an_getI r0 7 8 (q := (RX7, TX7, 20)) dX7_enterLevel_77 rfl hk1 (Nat.le_of_ble_eq_true rfl) rfl lf_X7_62 ?_
      refine ao_iconst (v := 1) dX7_enterLevel_80 (by decide) ?_
      refine ao_iadd dX7_enterLevel_81 ?_
      refine an_putI r0 7 8 (q := (RX7, TX7, 20)) dX7_enterLevel_82 rfl hk1 (Nat.le_of_ble_eq_true rfl) lf_X7_62 rfl rfl rfl rfl (fun M18 hM18 => ?_)
      replace h := ao_letD h hM18
      cases h
      exact ao_return dX7_enterLevel_85 rfl ⟨rfl, rfl⟩
    · replace h := ao_ifF h c3
      cases h
      exact ao_return dX7_enterLevel_16 rfl ⟨rfl, rfl⟩

abbrev uX7_setBackTo : ao_Mi := (yX7_setBackTo, cX7_setBackTo, 2, none, [])
def gX7_setBackTo (r0 : Nat) (r1 : Nat) (M : ao_M) (ρ : ao_H) : Option (ao_M) :=
  if ρ.2.1 r1 = 13 then
  (ρ.1 r1 7).bind fun j2 =>
  if ρ.2.1 r0 = 17 then
  (ρ.1 r0 6).bind fun j4 =>
  if ρ.2.1 j2 = 0 then
  if ρ.2.1 j4 = 0 then
  if ¬ (0 : Int32) < 0 ∧ ¬ (0 : Int32) < 0 ∧ ¬ (26 : Int32) < 0 ∧ (0 : Int32).toNatClampNeg + (26 : Int32).toNatClampNeg ≤ ρ.2.2.1 j2 ∧ (0 : Int32).toNatClampNeg + (26 : Int32).toNatClampNeg ≤ ρ.2.2.1 j4 then
  ao_let (ao_cp M j2 j4 (0 : Int32).toNatClampNeg (0 : Int32).toNatClampNeg (26 : Int32).toNatClampNeg) fun M8 =>
  ao_let (ao_u M8 r0 13 (M8 r1 10)) fun M9 =>
  ao_let (ao_u M9 r0 11 (M9 r1 11)) fun M10 =>
  ao_let (ao_u M10 r0 5 (0 : Int32)) fun M11 =>
  some M11
  else none
  else none
  else none
  else none
  else none
set_option maxRecDepth 100000 in
set_option maxHeartbeats 4000000 in
theorem aX7_setBackTo {Γ : ao_C} (d : Nat) (hd : 1 ≤ d) (r0 : Nat) (r1 : Nat) (M : ao_M) (ρ : ao_H) {y : ao_M} (h : gX7_setBackTo r0 r1 M ρ = some y) : ao_A Γ uX7_setBackTo d 0 0 [.ref (Γ.2.2.2 + r0), .ref (Γ.2.2.2 + r1)] (M, ρ) (ao_PV ρ y) := by
  refine ao_of (by decide) (ao_cat1 (Nat.le_of_ble_eq_true rfl)) (Nat.le_of_ble_eq_true rfl) ?_
  show ao_W Γ uX7_setBackTo (ao_rm d 0 0) (ao_Q Γ (ao_PV ρ y) 0 0) 0 0 0 [some (.ref (Γ.2.2.2 + r0)), some (.ref (Γ.2.2.2 + r1))] [] (M, ρ)
  unfold gX7_setBackTo at h
  refine ao_aload_n 1 dX7_setBackTo_0 rfl rfl ?_
  obtain ⟨hk1, h⟩ := ao_some h
  obtain ⟨j2, hj2, h⟩ := ao_bind h
  refine an_getR r1 3 7 (q := (RX3, TX3, 12)) dX7_setBackTo_1 rfl hk1 (Nat.le_of_ble_eq_true rfl) rfl lf_X7_112 hj2 ?_
  refine ao_iconst (v := 0) dX7_setBackTo_4 (by decide) ?_
  refine ao_aload_n 0 dX7_setBackTo_5 rfl rfl ?_
  obtain ⟨hk3, h⟩ := ao_some h
  obtain ⟨j4, hj4, h⟩ := ao_bind h
  refine an_getR r0 7 6 (q := (RX7, TX7, 20)) dX7_setBackTo_6 rfl hk3 (Nat.le_of_ble_eq_true rfl) rfl lf_X7_31 hj4 ?_
  refine ao_iconst (v := 0) dX7_setBackTo_9 (by decide) ?_
  refine ao_bipush (v := 26) dX7_setBackTo_10 (by decide) ?_
  obtain ⟨hk5, h⟩ := ao_some h
  obtain ⟨hk6, h⟩ := ao_some h
  obtain ⟨hc7, h⟩ := ao_some h
  refine an_copy j2 j4 dX7_setBackTo_12 lcp_X7_113 hk5 hk6 hc7 (Nat.le_of_ble_eq_true rfl) (ao_cpR (by omega)) (fun M8 hM8 => ?_)
  replace h := ao_letD h hM8
  refine ao_aload_n 0 dX7_setBackTo_15 rfl rfl ?_
  refine ao_aload_n 1 dX7_setBackTo_16 rfl rfl ?_
  refine an_getI r1 3 10 (q := (RX3, TX3, 12)) dX7_setBackTo_17 rfl hk1 (Nat.le_of_ble_eq_true rfl) rfl lf_X7_106 ?_
  refine an_putI r0 7 13 (q := (RX7, TX7, 20)) dX7_setBackTo_20 rfl hk3 (Nat.le_of_ble_eq_true rfl) lf_X7_68 rfl rfl rfl rfl (fun M9 hM9 => ?_)
  replace h := ao_letD h hM9
  refine ao_aload_n 0 dX7_setBackTo_23 rfl rfl ?_
  refine ao_aload_n 1 dX7_setBackTo_24 rfl rfl ?_
  refine an_getI r1 3 11 (q := (RX3, TX3, 12)) dX7_setBackTo_25 rfl hk1 (Nat.le_of_ble_eq_true rfl) rfl lf_X7_109 ?_
  refine an_putI r0 7 11 (q := (RX7, TX7, 20)) dX7_setBackTo_28 rfl hk3 (Nat.le_of_ble_eq_true rfl) lf_X7_65 rfl rfl rfl rfl (fun M10 hM10 => ?_)
  replace h := ao_letD h hM10
  refine ao_aload_n 0 dX7_setBackTo_31 rfl rfl ?_
  refine ao_iconst (v := 0) dX7_setBackTo_32 (by decide) ?_
  refine an_putI r0 7 5 (q := (RX7, TX7, 20)) dX7_setBackTo_33 rfl hk3 (Nat.le_of_ble_eq_true rfl) lf_X7_53 rfl rfl rfl rfl (fun M11 hM11 => ?_)
  replace h := ao_letD h hM11
  cases h
  exact ao_return dX7_setBackTo_36 rfl ⟨rfl, rfl⟩

abbrev uX7_hold : ao_Mi := (yX7_hold, cX7_hold, 2, none, [])
def gX7_hold (r0 : Nat) (x1 : Int32) (M : ao_M) (ρ : ao_H) : Option (ao_M) :=
  if ρ.2.1 r0 = 17 then
  if (M r0 13) < 0 then
    some M
  else
    if (200 : Int32) ≤ (M r0 13) then
      some M
    else
      (ρ.1 r0 12).bind fun j4 =>
      if ρ.2.1 j4 = 0 then
      if ¬ ((M r0 13) < 0 ∨ ρ.2.2.1 j4 ≤ (M r0 13).toNatClampNeg) then
      ao_let (ao_u M j4 (M r0 13).toNatClampNeg x1) fun M7 =>
      ao_let (ao_u M7 r0 13 ((M7 r0 13) + (1 : Int32))) fun M8 =>
      some M8
      else none
      else none
  else none
set_option maxRecDepth 100000 in
set_option maxHeartbeats 4000000 in
theorem aX7_hold {Γ : ao_C} (d : Nat) (hd : 0 ≤ d) (r0 : Nat) (x1 : Int32) (M : ao_M) (ρ : ao_H) {y : ao_M} (h : gX7_hold r0 x1 M ρ = some y) : ao_A Γ uX7_hold d 0 0 [.ref (Γ.2.2.2 + r0), .int x1] (M, ρ) (ao_PV ρ y) := by
  refine ao_of (by decide) (ao_cat1 (Nat.le_of_ble_eq_true rfl)) (Nat.le_of_ble_eq_true rfl) ?_
  show ao_W Γ uX7_hold (ao_rm d 0 0) (ao_Q Γ (ao_PV ρ y) 0 0) 0 0 0 [some (.ref (Γ.2.2.2 + r0)), some (.int x1)] [] (M, ρ)
  unfold gX7_hold at h
  refine ao_aload_n 0 dX7_hold_0 rfl rfl ?_
  obtain ⟨hk1, h⟩ := ao_some h
  refine an_getI r0 7 13 (q := (RX7, TX7, 20)) dX7_hold_1 rfl hk1 (Nat.le_of_ble_eq_true rfl) rfl lf_X7_68 ?_
  refine ao_if_lt 37 dX7_hold_4 (by decide) (fun c2 => ?_) (fun c2 => ?_)
  · replace h := ao_ifT h c2
    cases h
    exact ao_return dX7_hold_37 rfl ⟨rfl, rfl⟩
  · replace h := ao_ifF h c2
    refine ao_aload_n 0 dX7_hold_7 rfl rfl ?_
    refine an_getI r0 7 13 (q := (RX7, TX7, 20)) dX7_hold_8 rfl hk1 (Nat.le_of_ble_eq_true rfl) rfl lf_X7_68 ?_
    refine ao_sipush (v := 200) dX7_hold_11 (by decide) ?_
    refine ao_icmp_ge 37 dX7_hold_14 (by decide) (fun c3 => ?_) (fun c3 => ?_)
    · replace h := ao_ifT h c3
      cases h
      exact ao_return dX7_hold_37 rfl ⟨rfl, rfl⟩
    · replace h := ao_ifF h c3
      refine ao_aload_n 0 dX7_hold_17 rfl rfl ?_
      obtain ⟨j4, hj4, h⟩ := ao_bind h
      refine an_getR r0 7 12 (q := (RX7, TX7, 20)) dX7_hold_18 rfl hk1 (Nat.le_of_ble_eq_true rfl) rfl lf_X7_47 hj4 ?_
      refine ao_aload_n 0 dX7_hold_21 rfl rfl ?_
      refine an_getI r0 7 13 (q := (RX7, TX7, 20)) dX7_hold_22 rfl hk1 (Nat.le_of_ble_eq_true rfl) rfl lf_X7_68 ?_
      refine ao_iload_n 1 dX7_hold_25 rfl rfl ?_
      obtain ⟨hk5, h⟩ := ao_some h
      obtain ⟨hb6, h⟩ := ao_some h
      refine an_iastore j4 dX7_hold_26 hk5 hb6 (fun M7 hM7 => ?_)
      replace h := ao_letD h hM7
      refine ao_aload_n 0 dX7_hold_27 rfl rfl ?_
      refine ao_dup dX7_hold_28 rfl ?_
      refine an_getI r0 7 13 (q := (RX7, TX7, 20)) dX7_hold_29 rfl hk1 (Nat.le_of_ble_eq_true rfl) rfl lf_X7_68 ?_
      refine ao_iconst (v := 1) dX7_hold_32 (by decide) ?_
      refine ao_iadd dX7_hold_33 ?_
      refine an_putI r0 7 13 (q := (RX7, TX7, 20)) dX7_hold_34 rfl hk1 (Nat.le_of_ble_eq_true rfl) lf_X7_68 rfl rfl rfl rfl (fun M8 hM8 => ?_)
      replace h := ao_letD h hM8
      cases h
      exact ao_return dX7_hold_37 rfl ⟨rfl, rfl⟩

abbrev uX7_enterTry : ao_Mi := (yX7_enterTry, cX7_enterTry, 2, none, [])
def gX7_enterTry (r0 : Nat) (x1 : Int32) (M : ao_M) (ρ : ao_H) : Option (ao_M) :=
  if ρ.2.1 r0 = 17 then
  if (M r0 11) < 0 then
    some M
  else
    if (10 : Int32) ≤ (M r0 11) then
      some M
    else
      (ρ.1 r0 9).bind fun j4 =>
      if ρ.2.1 j4 = 0 then
      if ¬ ((M r0 11) < 0 ∨ ρ.2.2.1 j4 ≤ (M r0 11).toNatClampNeg) then
      ao_let (ao_u M j4 (M r0 11).toNatClampNeg x1) fun M7 =>
      (ρ.1 r0 10).bind fun j8 =>
      if ρ.2.1 j8 = 0 then
      if ¬ ((M7 r0 11) < 0 ∨ ρ.2.2.1 j8 ≤ (M7 r0 11).toNatClampNeg) then
      ao_let (ao_u M7 j8 (M7 r0 11).toNatClampNeg (M7 r0 8)) fun M11 =>
      ao_let (ao_u M11 r0 11 ((M11 r0 11) + (1 : Int32))) fun M12 =>
      some M12
      else none
      else none
      else none
      else none
  else none
set_option maxRecDepth 100000 in
set_option maxHeartbeats 4000000 in
theorem aX7_enterTry {Γ : ao_C} (d : Nat) (hd : 0 ≤ d) (r0 : Nat) (x1 : Int32) (M : ao_M) (ρ : ao_H) {y : ao_M} (h : gX7_enterTry r0 x1 M ρ = some y) : ao_A Γ uX7_enterTry d 0 0 [.ref (Γ.2.2.2 + r0), .int x1] (M, ρ) (ao_PV ρ y) := by
  refine ao_of (by decide) (ao_cat1 (Nat.le_of_ble_eq_true rfl)) (Nat.le_of_ble_eq_true rfl) ?_
  show ao_W Γ uX7_enterTry (ao_rm d 0 0) (ao_Q Γ (ao_PV ρ y) 0 0) 0 0 0 [some (.ref (Γ.2.2.2 + r0)), some (.int x1)] [] (M, ρ)
  unfold gX7_enterTry at h
  refine ao_aload_n 0 dX7_enterTry_0 rfl rfl ?_
  obtain ⟨hk1, h⟩ := ao_some h
  refine an_getI r0 7 11 (q := (RX7, TX7, 20)) dX7_enterTry_1 rfl hk1 (Nat.le_of_ble_eq_true rfl) rfl lf_X7_65 ?_
  refine ao_if_lt 49 dX7_enterTry_4 (by decide) (fun c2 => ?_) (fun c2 => ?_)
  · replace h := ao_ifT h c2
    cases h
    exact ao_return dX7_enterTry_49 rfl ⟨rfl, rfl⟩
  · replace h := ao_ifF h c2
    refine ao_aload_n 0 dX7_enterTry_7 rfl rfl ?_
    refine an_getI r0 7 11 (q := (RX7, TX7, 20)) dX7_enterTry_8 rfl hk1 (Nat.le_of_ble_eq_true rfl) rfl lf_X7_65 ?_
    refine ao_bipush (v := 10) dX7_enterTry_11 (by decide) ?_
    refine ao_icmp_ge 49 dX7_enterTry_13 (by decide) (fun c3 => ?_) (fun c3 => ?_)
    · replace h := ao_ifT h c3
      cases h
      exact ao_return dX7_enterTry_49 rfl ⟨rfl, rfl⟩
    · replace h := ao_ifF h c3
      refine ao_aload_n 0 dX7_enterTry_16 rfl rfl ?_
      obtain ⟨j4, hj4, h⟩ := ao_bind h
      refine an_getR r0 7 9 (q := (RX7, TX7, 20)) dX7_enterTry_17 rfl hk1 (Nat.le_of_ble_eq_true rfl) rfl lf_X7_41 hj4 ?_
      refine ao_aload_n 0 dX7_enterTry_20 rfl rfl ?_
      refine an_getI r0 7 11 (q := (RX7, TX7, 20)) dX7_enterTry_21 rfl hk1 (Nat.le_of_ble_eq_true rfl) rfl lf_X7_65 ?_
      refine ao_iload_n 1 dX7_enterTry_24 rfl rfl ?_
      obtain ⟨hk5, h⟩ := ao_some h
      obtain ⟨hb6, h⟩ := ao_some h
      refine an_iastore j4 dX7_enterTry_25 hk5 hb6 (fun M7 hM7 => ?_)
      replace h := ao_letD h hM7
      refine ao_aload_n 0 dX7_enterTry_26 rfl rfl ?_
      obtain ⟨j8, hj8, h⟩ := ao_bind h
      refine an_getR r0 7 10 (q := (RX7, TX7, 20)) dX7_enterTry_27 rfl hk1 (Nat.le_of_ble_eq_true rfl) rfl lf_X7_44 hj8 ?_
      refine ao_aload_n 0 dX7_enterTry_30 rfl rfl ?_
      refine an_getI r0 7 11 (q := (RX7, TX7, 20)) dX7_enterTry_31 rfl hk1 (Nat.le_of_ble_eq_true rfl) rfl lf_X7_65 ?_
      refine ao_aload_n 0 dX7_enterTry_34 rfl rfl ?_
      refine an_getI r0 7 8 (q := (RX7, TX7, 20)) dX7_enterTry_35 rfl hk1 (Nat.le_of_ble_eq_true rfl) rfl lf_X7_62 ?_
      obtain ⟨hk9, h⟩ := ao_some h
      obtain ⟨hb10, h⟩ := ao_some h
      refine an_iastore j8 dX7_enterTry_38 hk9 hb10 (fun M11 hM11 => ?_)
      replace h := ao_letD h hM11
      refine ao_aload_n 0 dX7_enterTry_39 rfl rfl ?_
      refine ao_dup dX7_enterTry_40 rfl ?_
      refine an_getI r0 7 11 (q := (RX7, TX7, 20)) dX7_enterTry_41 rfl hk1 (Nat.le_of_ble_eq_true rfl) rfl lf_X7_65 ?_
      refine ao_iconst (v := 1) dX7_enterTry_44 (by decide) ?_
      refine ao_iadd dX7_enterTry_45 ?_
      refine an_putI r0 7 11 (q := (RX7, TX7, 20)) dX7_enterTry_46 rfl hk1 (Nat.le_of_ble_eq_true rfl) lf_X7_65 rfl rfl rfl rfl (fun M12 hM12 => ?_)
      replace h := ao_letD h hM12
      cases h
      exact ao_return dX7_enterTry_49 rfl ⟨rfl, rfl⟩

abbrev uX7_leaveTry : ao_Mi := (yX7_leaveTry, cX7_leaveTry, 1, none, [])
def gX7_leaveTry (r0 : Nat) (M : ao_M) (ρ : ao_H) : Option (ao_M) :=
  if ρ.2.1 r0 = 17 then
  if (M r0 11) ≤ 0 then
    some M
  else
    ao_let (ao_u M r0 11 ((M r0 11) - (1 : Int32))) fun M3 =>
    some M3
  else none
set_option maxRecDepth 100000 in
set_option maxHeartbeats 4000000 in
theorem aX7_leaveTry {Γ : ao_C} (d : Nat) (hd : 0 ≤ d) (r0 : Nat) (M : ao_M) (ρ : ao_H) {y : ao_M} (h : gX7_leaveTry r0 M ρ = some y) : ao_A Γ uX7_leaveTry d 0 0 [.ref (Γ.2.2.2 + r0)] (M, ρ) (ao_PV ρ y) := by
  refine ao_of (by decide) (ao_cat1 (Nat.le_of_ble_eq_true rfl)) (Nat.le_of_ble_eq_true rfl) ?_
  show ao_W Γ uX7_leaveTry (ao_rm d 0 0) (ao_Q Γ (ao_PV ρ y) 0 0) 0 0 0 [some (.ref (Γ.2.2.2 + r0))] [] (M, ρ)
  unfold gX7_leaveTry at h
  refine ao_aload_n 0 dX7_leaveTry_0 rfl rfl ?_
  obtain ⟨hk1, h⟩ := ao_some h
  refine an_getI r0 7 11 (q := (RX7, TX7, 20)) dX7_leaveTry_1 rfl hk1 (Nat.le_of_ble_eq_true rfl) rfl lf_X7_65 ?_
  refine ao_if_le 17 dX7_leaveTry_4 (by decide) (fun c2 => ?_) (fun c2 => ?_)
  · replace h := ao_ifT h c2
    cases h
    exact ao_return dX7_leaveTry_17 rfl ⟨rfl, rfl⟩
  · replace h := ao_ifF h c2
    refine ao_aload_n 0 dX7_leaveTry_7 rfl rfl ?_
    refine ao_dup dX7_leaveTry_8 rfl ?_
    refine an_getI r0 7 11 (q := (RX7, TX7, 20)) dX7_leaveTry_9 rfl hk1 (Nat.le_of_ble_eq_true rfl) rfl lf_X7_65 ?_
    refine ao_iconst (v := 1) dX7_leaveTry_12 (by decide) ?_
    refine ao_isub dX7_leaveTry_13 ?_
    refine an_putI r0 7 11 (q := (RX7, TX7, 20)) dX7_leaveTry_14 rfl hk1 (Nat.le_of_ble_eq_true rfl) lf_X7_65 rfl rfl rfl rfl (fun M3 hM3 => ?_)
    replace h := ao_letD h hM3
    cases h
    exact ao_return dX7_leaveTry_17 rfl ⟨rfl, rfl⟩

abbrev uX7_tryAtOf : ao_Mi := (yX7_tryAtOf, cX7_tryAtOf, 2, (some .int), [])
def gX7_tryAtOf (r0 : Nat) (x1 : Int32) (M : ao_M) (ρ : ao_H) : Option (Int32 × ao_M) :=
  if x1 < 0 then
    some ((0 : Int32), M)
  else
    if (10 : Int32) ≤ x1 then
      some ((0 : Int32), M)
    else
      if ρ.2.1 r0 = 17 then
      (ρ.1 r0 9).bind fun j4 =>
      if ρ.2.1 j4 = 0 then
      if ¬ (x1 < 0 ∨ ρ.2.2.1 j4 ≤ x1.toNatClampNeg) then
      some ((M j4 x1.toNatClampNeg), M)
      else none
      else none
      else none
set_option maxRecDepth 100000 in
set_option maxHeartbeats 4000000 in
theorem aX7_tryAtOf {Γ : ao_C} (d : Nat) (hd : 0 ≤ d) (r0 : Nat) (x1 : Int32) (M : ao_M) (ρ : ao_H) {y : Int32 × ao_M} (h : gX7_tryAtOf r0 x1 M ρ = some y) : ao_A Γ uX7_tryAtOf d 0 0 [.ref (Γ.2.2.2 + r0), .int x1] (M, ρ) (ao_PI ρ y) := by
  refine ao_of (by decide) (ao_cat1 (Nat.le_of_ble_eq_true rfl)) (Nat.le_of_ble_eq_true rfl) ?_
  show ao_W Γ uX7_tryAtOf (ao_rm d 0 0) (ao_Q Γ (ao_PI ρ y) 0 0) 0 0 0 [some (.ref (Γ.2.2.2 + r0)), some (.int x1)] [] (M, ρ)
  unfold gX7_tryAtOf at h
  refine ao_iload_n 1 dX7_tryAtOf_0 rfl rfl ?_
  refine ao_if_lt 19 dX7_tryAtOf_1 (by decide) (fun c1 => ?_) (fun c1 => ?_)
  · replace h := ao_ifT h c1
    refine ao_iconst (v := 0) dX7_tryAtOf_19 (by decide) ?_
    cases h
    exact ao_ireturn dX7_tryAtOf_20 rfl rfl ⟨rfl, rfl⟩
  · replace h := ao_ifF h c1
    refine ao_iload_n 1 dX7_tryAtOf_4 rfl rfl ?_
    refine ao_bipush (v := 10) dX7_tryAtOf_5 (by decide) ?_
    refine ao_icmp_ge 19 dX7_tryAtOf_7 (by decide) (fun c2 => ?_) (fun c2 => ?_)
    · replace h := ao_ifT h c2
      refine ao_iconst (v := 0) dX7_tryAtOf_19 (by decide) ?_
      cases h
      exact ao_ireturn dX7_tryAtOf_20 rfl rfl ⟨rfl, rfl⟩
    · replace h := ao_ifF h c2
      refine ao_aload_n 0 dX7_tryAtOf_10 rfl rfl ?_
      obtain ⟨hk3, h⟩ := ao_some h
      obtain ⟨j4, hj4, h⟩ := ao_bind h
      refine an_getR r0 7 9 (q := (RX7, TX7, 20)) dX7_tryAtOf_11 rfl hk3 (Nat.le_of_ble_eq_true rfl) rfl lf_X7_41 hj4 ?_
      refine ao_iload_n 1 dX7_tryAtOf_14 rfl rfl ?_
      obtain ⟨hk5, h⟩ := ao_some h
      obtain ⟨hb6, h⟩ := ao_some h
      refine an_iaload j4 dX7_tryAtOf_15 hk5 hb6 ?_
      refine ao_goto 20 dX7_tryAtOf_16 (by decide) ?_
      cases h
      exact ao_ireturn dX7_tryAtOf_20 rfl rfl ⟨rfl, rfl⟩

abbrev uX7_tryDepthOf : ao_Mi := (yX7_tryDepthOf, cX7_tryDepthOf, 2, (some .int), [])
def gX7_tryDepthOf (r0 : Nat) (x1 : Int32) (M : ao_M) (ρ : ao_H) : Option (Int32 × ao_M) :=
  if x1 < 0 then
    some ((0 : Int32), M)
  else
    if (10 : Int32) ≤ x1 then
      some ((0 : Int32), M)
    else
      if ρ.2.1 r0 = 17 then
      (ρ.1 r0 10).bind fun j4 =>
      if ρ.2.1 j4 = 0 then
      if ¬ (x1 < 0 ∨ ρ.2.2.1 j4 ≤ x1.toNatClampNeg) then
      some ((M j4 x1.toNatClampNeg), M)
      else none
      else none
      else none
set_option maxRecDepth 100000 in
set_option maxHeartbeats 4000000 in
theorem aX7_tryDepthOf {Γ : ao_C} (d : Nat) (hd : 0 ≤ d) (r0 : Nat) (x1 : Int32) (M : ao_M) (ρ : ao_H) {y : Int32 × ao_M} (h : gX7_tryDepthOf r0 x1 M ρ = some y) : ao_A Γ uX7_tryDepthOf d 0 0 [.ref (Γ.2.2.2 + r0), .int x1] (M, ρ) (ao_PI ρ y) := by
  refine ao_of (by decide) (ao_cat1 (Nat.le_of_ble_eq_true rfl)) (Nat.le_of_ble_eq_true rfl) ?_
  show ao_W Γ uX7_tryDepthOf (ao_rm d 0 0) (ao_Q Γ (ao_PI ρ y) 0 0) 0 0 0 [some (.ref (Γ.2.2.2 + r0)), some (.int x1)] [] (M, ρ)
  unfold gX7_tryDepthOf at h
  refine ao_iload_n 1 dX7_tryDepthOf_0 rfl rfl ?_
  refine ao_if_lt 19 dX7_tryDepthOf_1 (by decide) (fun c1 => ?_) (fun c1 => ?_)
  · replace h := ao_ifT h c1
    refine ao_iconst (v := 0) dX7_tryDepthOf_19 (by decide) ?_
    cases h
    exact ao_ireturn dX7_tryDepthOf_20 rfl rfl ⟨rfl, rfl⟩
  · replace h := ao_ifF h c1
    refine ao_iload_n 1 dX7_tryDepthOf_4 rfl rfl ?_
    refine ao_bipush (v := 10) dX7_tryDepthOf_5 (by decide) ?_
    refine ao_icmp_ge 19 dX7_tryDepthOf_7 (by decide) (fun c2 => ?_) (fun c2 => ?_)
    · replace h := ao_ifT h c2
      refine ao_iconst (v := 0) dX7_tryDepthOf_19 (by decide) ?_
      cases h
      exact ao_ireturn dX7_tryDepthOf_20 rfl rfl ⟨rfl, rfl⟩
    · replace h := ao_ifF h c2
      refine ao_aload_n 0 dX7_tryDepthOf_10 rfl rfl ?_
      obtain ⟨hk3, h⟩ := ao_some h
      obtain ⟨j4, hj4, h⟩ := ao_bind h
      refine an_getR r0 7 10 (q := (RX7, TX7, 20)) dX7_tryDepthOf_11 rfl hk3 (Nat.le_of_ble_eq_true rfl) rfl lf_X7_44 hj4 ?_
      refine ao_iload_n 1 dX7_tryDepthOf_14 rfl rfl ?_
      obtain ⟨hk5, h⟩ := ao_some h
      obtain ⟨hb6, h⟩ := ao_some h
      refine an_iaload j4 dX7_tryDepthOf_15 hk5 hb6 ?_
      refine ao_goto 20 dX7_tryDepthOf_16 (by decide) ?_
      cases h
      exact ao_ireturn dX7_tryDepthOf_20 rfl rfl ⟨rfl, rfl⟩

abbrev uX7_levelWithOr : ao_Mi := (yX7_levelWithOr, cX7_levelWithOr, 2, (some .int), [])
def fX7_levelWithOr : Nat → Nat → Nat → Int32 →  ao_M → ao_H → Option (Int32 × ao_M)
  | 0, _, _, _, _, _ => none
  | n + 1, pc, r0, x1, M, ρ =>
    if pc = 0 then
      if ρ.2.1 r0 = 17 then
      ao_let ((M r0 8) - (1 : Int32)) fun v2 =>
      fX7_levelWithOr n 7 r0 v2 M ρ
      else none
    else if pc = 7 then
      if x1 < 0 then
        some ((-1 : Int32), M)
      else
        if ρ.2.1 r0 = 17 then
        (gX7_level n r0 x1 M ρ).bind fun p5 =>
        if ρ.2.1 p5.1 = 13 then
        if (p5.2 p5.1 9) = 0 then
          (ρ.1 r0 1).bind fun j8 =>
          (gX7_level n r0 x1 p5.2 ρ).bind fun p9 =>
          if ρ.2.1 p9.1 = 13 then
          if ρ.2.1 j8 = 11 then
          (gX1_firstAt j8 (p9.2 p9.1 8) p9.2 ρ).bind fun p12 =>
          if p12.1 < 0 then
            fX7_levelWithOr n 42 r0 x1 p12.2 ρ
          else
            some (x1, p12.2)
          else none
          else none
        else
          fX7_levelWithOr n 42 r0 x1 p5.2 ρ
        else none
        else none
    else if pc = 42 then
      ao_let (x1 + (-1 : Int32)) fun v14 =>
      fX7_levelWithOr n 7 r0 v14 M ρ
    else none
def gX7_levelWithOr (n : Nat) (r0 : Nat) (M : ao_M) (ρ : ao_H) : Option (Int32 × ao_M) := fX7_levelWithOr n 0 r0 0 M ρ
set_option maxRecDepth 100000 in
set_option maxHeartbeats 4000000 in
theorem wX7_levelWithOr {Γ : ao_C} {ρ : ao_H} (d : Nat) (hd : 1 ≤ d) : ∀ n : Nat, (∀ (r0 : Nat) (M : ao_M) (y : Int32 × ao_M), fX7_levelWithOr n 0 r0 0 M ρ = some y → ao_W Γ uX7_levelWithOr (ao_rm d 0 0) (ao_Q Γ (ao_PI ρ y) 0 0) 0 0 0 [some (.ref (Γ.2.2.2 + r0)), none] [] (M, ρ)) ∧ (∀ (r0 : Nat) (x1 : Int32) (M : ao_M) (y : Int32 × ao_M), fX7_levelWithOr n 7 r0 x1 M ρ = some y → ao_W Γ uX7_levelWithOr (ao_rm d 0 0) (ao_Q Γ (ao_PI ρ y) 0 0) 0 0 7 [some (.ref (Γ.2.2.2 + r0)), some (.int x1)] [] (M, ρ)) ∧ (∀ (r0 : Nat) (x1 : Int32) (M : ao_M) (y : Int32 × ao_M), fX7_levelWithOr n 42 r0 x1 M ρ = some y → ao_W Γ uX7_levelWithOr (ao_rm d 0 0) (ao_Q Γ (ao_PI ρ y) 0 0) 0 0 42 [some (.ref (Γ.2.2.2 + r0)), some (.int x1)] [] (M, ρ)) := by
  intro n
  induction n with
  | zero => exact ⟨fun _ _ _ h => ao_no h, fun _ _ _ _ h => ao_no h, fun _ _ _ _ h => ao_no h⟩
  | succ n ih =>
    refine ⟨?_, ?_, ?_⟩
    · intro r0 M y h
      replace h := ao_ifT h rfl
      refine ao_aload_n 0 dX7_levelWithOr_0 rfl rfl ?_
      obtain ⟨hk1, h⟩ := ao_some h
      refine an_getI r0 7 8 (q := (RX7, TX7, 20)) dX7_levelWithOr_1 rfl hk1 (Nat.le_of_ble_eq_true rfl) rfl lf_X7_62 ?_
      refine ao_iconst (v := 1) dX7_levelWithOr_4 (by decide) ?_
      refine ao_isub dX7_levelWithOr_5 ?_
      refine an_topi (fun v2 hv2 => ?_)
      replace h := ao_letD h hv2
      refine ao_istore_n 1 (lo' := [some (.ref (Γ.2.2.2 + r0)), some (.int v2)]) dX7_levelWithOr_6 rfl (Nat.le_of_ble_eq_true rfl) rfl ?_
      exact ih.2.1 r0 v2 M _ h
    · intro r0 x1 M y h
      replace h := ao_ifF h (by decide)
      replace h := ao_ifT h rfl
      refine ao_iload_n 1 dX7_levelWithOr_7 rfl rfl ?_
      refine ao_if_lt 48 dX7_levelWithOr_8 (by decide) (fun c3 => ?_) (fun c3 => ?_)
      · replace h := ao_ifT h c3
        refine ao_iconst (v := (-1)) dX7_levelWithOr_48 (by decide) ?_
        cases h
        exact ao_ireturn dX7_levelWithOr_49 rfl rfl ⟨rfl, rfl⟩
      · replace h := ao_ifF h c3
        refine ao_aload_n 0 dX7_levelWithOr_11 rfl rfl ?_
        refine ao_iload_n 1 dX7_levelWithOr_12 rfl rfl ?_
        obtain ⟨hk4, h⟩ := ao_some h
        obtain ⟨p5, hp5, h⟩ := ao_bind h
        refine an_callVr r0 7 (q := (RX7, TX7, 20)) [.int x1] (aX7_level (d - 1) (by omega) _ r0 x1 M ρ hp5) dX7_levelWithOr_13 lc_X7_89 li_X7_level ls_X7_level rfl hk4 rfl rfl (Nat.le_of_ble_eq_true rfl) (ao_hR (by omega) (by decide)) ?_
        obtain ⟨hk6, h⟩ := ao_some h
        refine an_getI p5.1 3 9 (q := (RX3, TX3, 12)) dX7_levelWithOr_16 rfl hk6 (Nat.le_of_ble_eq_true rfl) rfl lf_X7_102 ?_
        refine ao_if_ne 42 dX7_levelWithOr_19 (by decide) (fun c7 => ?_) (fun c7 => ?_)
        · replace h := ao_ifF h c7
          exact ih.2.2 r0 x1 p5.2 _ h
        · replace h := ao_ifT h c7
          refine ao_aload_n 0 dX7_levelWithOr_22 rfl rfl ?_
          obtain ⟨j8, hj8, h⟩ := ao_bind h
          refine an_getR r0 7 1 (q := (RX7, TX7, 20)) dX7_levelWithOr_23 rfl hk4 (Nat.le_of_ble_eq_true rfl) rfl lf_X7_20 hj8 ?_
          refine ao_aload_n 0 dX7_levelWithOr_26 rfl rfl ?_
          refine ao_iload_n 1 dX7_levelWithOr_27 rfl rfl ?_
          obtain ⟨p9, hp9, h⟩ := ao_bind h
          refine an_callVr r0 7 (q := (RX7, TX7, 20)) [.int x1] (aX7_level (d - 1) (by omega) _ r0 x1 p5.2 ρ hp9) dX7_levelWithOr_28 lc_X7_89 li_X7_level ls_X7_level rfl hk4 rfl rfl (Nat.le_of_ble_eq_true rfl) (ao_hR (by omega) (by decide)) ?_
          obtain ⟨hk10, h⟩ := ao_some h
          refine an_getI p9.1 3 8 (q := (RX3, TX3, 12)) dX7_levelWithOr_31 rfl hk10 (Nat.le_of_ble_eq_true rfl) rfl lf_X7_99 ?_
          obtain ⟨hk11, h⟩ := ao_some h
          obtain ⟨p12, hp12, h⟩ := ao_bind h
          refine an_callVi j8 1 (q := (RX1, TX1, 6)) [.int (p9.2 p9.1 8)] (aX1_firstAt (d - 1) (by omega) j8 (p9.2 p9.1 8) p9.2 ρ hp12) dX7_levelWithOr_34 lc_X7_119 li_X1_firstAt ls_X1_firstAt rfl hk11 rfl rfl (Nat.le_of_ble_eq_true rfl) (ao_hR (by omega) (by decide)) ?_
          refine ao_if_lt 42 dX7_levelWithOr_37 (by decide) (fun c13 => ?_) (fun c13 => ?_)
          · replace h := ao_ifT h c13
            exact ih.2.2 r0 x1 p12.2 _ h
          · replace h := ao_ifF h c13
            refine ao_iload_n 1 dX7_levelWithOr_40 rfl rfl ?_
            cases h
            exact ao_ireturn dX7_levelWithOr_41 rfl rfl ⟨rfl, rfl⟩
    · intro r0 x1 M y h
      replace h := ao_ifF h (by decide)
      replace h := ao_ifF h (by decide)
      replace h := ao_ifT h rfl
      obtain ⟨v14, hv14⟩ : ∃ z : Int32, z = x1 + (-1 : Int32) := ⟨_, rfl⟩
      replace h := ao_letD h hv14
      refine ao_iinc 1 (v := v14) (lo' := [some (.ref (Γ.2.2.2 + r0)), some (.int v14)]) dX7_levelWithOr_42 rfl (by rw [hv14]; rfl) (Nat.le_of_ble_eq_true rfl) rfl ?_
      refine ao_goto 7 dX7_levelWithOr_45 (by decide) ?_
      exact ih.2.1 r0 v14 M _ h
set_option maxRecDepth 100000 in
set_option maxHeartbeats 4000000 in
theorem aX7_levelWithOr {Γ : ao_C} (d : Nat) (hd : 1 ≤ d) (n : Nat) (r0 : Nat) (M : ao_M) (ρ : ao_H) {y : Int32 × ao_M} (h : gX7_levelWithOr n r0 M ρ = some y) : ao_A Γ uX7_levelWithOr d 0 0 [.ref (Γ.2.2.2 + r0)] (M, ρ) (ao_PI ρ y) := by
  refine ao_of (by decide) (ao_cat1 (Nat.le_of_ble_eq_true rfl)) (Nat.le_of_ble_eq_true rfl) ?_
  show ao_W Γ uX7_levelWithOr (ao_rm d 0 0) (ao_Q Γ (ao_PI ρ y) 0 0) 0 0 0 [some (.ref (Γ.2.2.2 + r0)), none] [] (M, ρ)
  exact (wX7_levelWithOr d hd n).1 r0 M y h

abbrev uX7_readsOfAll : ao_Mi := (yX7_readsOfAll, cX7_readsOfAll, 3, (some .int), [])
def fX7_readsOfAll : Nat → Nat → Nat → Int32 → Int32 →  ao_M → ao_H → Option (Int32 × ao_M)
  | 0, _, _, _, _, _, _ => none
  | n + 1, pc, r0, x1, x2, M, ρ =>
    if pc = 0 then
      fX7_readsOfAll n 4 r0 (0 : Int32) (0 : Int32) M ρ
    else if pc = 4 then
      if ρ.2.1 r0 = 17 then
      if (M r0 8) ≤ x2 then
        some (x1, M)
      else
        (gX7_level n r0 x2 M ρ).bind fun p3 =>
        if ρ.2.1 p3.1 = 13 then
        ao_let (x1 + (p3.2 p3.1 3)) fun v5 =>
        ao_let (x2 + (1 : Int32)) fun v6 =>
        fX7_readsOfAll n 4 r0 v5 v6 p3.2 ρ
        else none
      else none
    else none
def gX7_readsOfAll (n : Nat) (r0 : Nat) (M : ao_M) (ρ : ao_H) : Option (Int32 × ao_M) := fX7_readsOfAll n 0 r0 0 0 M ρ
set_option maxRecDepth 100000 in
set_option maxHeartbeats 4000000 in
theorem wX7_readsOfAll {Γ : ao_C} {ρ : ao_H} (d : Nat) (hd : 1 ≤ d) : ∀ n : Nat, (∀ (r0 : Nat) (M : ao_M) (y : Int32 × ao_M), fX7_readsOfAll n 0 r0 0 0 M ρ = some y → ao_W Γ uX7_readsOfAll (ao_rm d 0 0) (ao_Q Γ (ao_PI ρ y) 0 0) 0 0 0 [some (.ref (Γ.2.2.2 + r0)), none, none] [] (M, ρ)) ∧ (∀ (r0 : Nat) (x1 : Int32) (x2 : Int32) (M : ao_M) (y : Int32 × ao_M), fX7_readsOfAll n 4 r0 x1 x2 M ρ = some y → ao_W Γ uX7_readsOfAll (ao_rm d 0 0) (ao_Q Γ (ao_PI ρ y) 0 0) 0 0 4 [some (.ref (Γ.2.2.2 + r0)), some (.int x1), some (.int x2)] [] (M, ρ)) := by
  intro n
  induction n with
  | zero => exact ⟨fun _ _ _ h => ao_no h, fun _ _ _ _ _ h => ao_no h⟩
  | succ n ih =>
    refine ⟨?_, ?_⟩
    · intro r0 M y h
      replace h := ao_ifT h rfl
      refine ao_iconst (v := 0) dX7_readsOfAll_0 (by decide) ?_
      refine ao_istore_n 1 (lo' := [some (.ref (Γ.2.2.2 + r0)), some (.int (0 : Int32)), none]) dX7_readsOfAll_1 rfl (Nat.le_of_ble_eq_true rfl) rfl ?_
      refine ao_iconst (v := 0) dX7_readsOfAll_2 (by decide) ?_
      refine ao_istore_n 2 (lo' := [some (.ref (Γ.2.2.2 + r0)), some (.int (0 : Int32)), some (.int (0 : Int32))]) dX7_readsOfAll_3 rfl (Nat.le_of_ble_eq_true rfl) rfl ?_
      exact ih.2 r0 (0 : Int32) (0 : Int32) M _ h
    · intro r0 x1 x2 M y h
      replace h := ao_ifF h (by decide)
      replace h := ao_ifT h rfl
      refine ao_iload_n 2 dX7_readsOfAll_4 rfl rfl ?_
      refine ao_aload_n 0 dX7_readsOfAll_5 rfl rfl ?_
      obtain ⟨hk1, h⟩ := ao_some h
      refine an_getI r0 7 8 (q := (RX7, TX7, 20)) dX7_readsOfAll_6 rfl hk1 (Nat.le_of_ble_eq_true rfl) rfl lf_X7_62 ?_
      refine ao_icmp_ge 29 dX7_readsOfAll_9 (by decide) (fun c2 => ?_) (fun c2 => ?_)
      · replace h := ao_ifT h c2
        refine ao_iload_n 1 dX7_readsOfAll_29 rfl rfl ?_
        cases h
        exact ao_ireturn dX7_readsOfAll_30 rfl rfl ⟨rfl, rfl⟩
      · replace h := ao_ifF h c2
        refine ao_iload_n 1 dX7_readsOfAll_12 rfl rfl ?_
        refine ao_aload_n 0 dX7_readsOfAll_13 rfl rfl ?_
        refine ao_iload_n 2 dX7_readsOfAll_14 rfl rfl ?_
        obtain ⟨p3, hp3, h⟩ := ao_bind h
        refine an_callVr r0 7 (q := (RX7, TX7, 20)) [.int x2] (aX7_level (d - 1) (by omega) _ r0 x2 M ρ hp3) dX7_readsOfAll_15 lc_X7_89 li_X7_level ls_X7_level rfl hk1 rfl rfl (Nat.le_of_ble_eq_true rfl) (ao_hR (by omega) (by decide)) ?_
        obtain ⟨hk4, h⟩ := ao_some h
        refine an_getI p3.1 3 3 (q := (RX3, TX3, 12)) dX7_readsOfAll_18 rfl hk4 (Nat.le_of_ble_eq_true rfl) rfl lf_X7_135 ?_
        refine ao_iadd dX7_readsOfAll_21 ?_
        refine an_topi (fun v5 hv5 => ?_)
        replace h := ao_letD h hv5
        refine ao_istore_n 1 (lo' := [some (.ref (Γ.2.2.2 + r0)), some (.int v5), some (.int x2)]) dX7_readsOfAll_22 rfl (Nat.le_of_ble_eq_true rfl) rfl ?_
        obtain ⟨v6, hv6⟩ : ∃ z : Int32, z = x2 + (1 : Int32) := ⟨_, rfl⟩
        replace h := ao_letD h hv6
        refine ao_iinc 2 (v := v6) (lo' := [some (.ref (Γ.2.2.2 + r0)), some (.int v5), some (.int v6)]) dX7_readsOfAll_23 rfl (by rw [hv6]; rfl) (Nat.le_of_ble_eq_true rfl) rfl ?_
        refine ao_goto 4 dX7_readsOfAll_26 (by decide) ?_
        exact ih.2 r0 v5 v6 p3.2 _ h
set_option maxRecDepth 100000 in
set_option maxHeartbeats 4000000 in
theorem aX7_readsOfAll {Γ : ao_C} (d : Nat) (hd : 1 ≤ d) (n : Nat) (r0 : Nat) (M : ao_M) (ρ : ao_H) {y : Int32 × ao_M} (h : gX7_readsOfAll n r0 M ρ = some y) : ao_A Γ uX7_readsOfAll d 0 0 [.ref (Γ.2.2.2 + r0)] (M, ρ) (ao_PI ρ y) := by
  refine ao_of (by decide) (ao_cat1 (Nat.le_of_ble_eq_true rfl)) (Nat.le_of_ble_eq_true rfl) ?_
  show ao_W Γ uX7_readsOfAll (ao_rm d 0 0) (ao_Q Γ (ao_PI ρ y) 0 0) 0 0 0 [some (.ref (Γ.2.2.2 + r0)), none, none] [] (M, ρ)
  exact (wX7_readsOfAll d hd n).1 r0 M y h

abbrev uX7_writesOfAll : ao_Mi := (yX7_writesOfAll, cX7_writesOfAll, 3, (some .int), [])
def fX7_writesOfAll : Nat → Nat → Nat → Int32 → Int32 →  ao_M → ao_H → Option (Int32 × ao_M)
  | 0, _, _, _, _, _, _ => none
  | n + 1, pc, r0, x1, x2, M, ρ =>
    if pc = 0 then
      fX7_writesOfAll n 4 r0 (0 : Int32) (0 : Int32) M ρ
    else if pc = 4 then
      if ρ.2.1 r0 = 17 then
      if (M r0 8) ≤ x2 then
        some (x1, M)
      else
        (gX7_level n r0 x2 M ρ).bind fun p3 =>
        if ρ.2.1 p3.1 = 13 then
        ao_let (x1 ||| (p3.2 p3.1 6)) fun v5 =>
        ao_let (x2 + (1 : Int32)) fun v6 =>
        fX7_writesOfAll n 4 r0 v5 v6 p3.2 ρ
        else none
      else none
    else none
def gX7_writesOfAll (n : Nat) (r0 : Nat) (M : ao_M) (ρ : ao_H) : Option (Int32 × ao_M) := fX7_writesOfAll n 0 r0 0 0 M ρ
set_option maxRecDepth 100000 in
set_option maxHeartbeats 4000000 in
theorem wX7_writesOfAll {Γ : ao_C} {ρ : ao_H} (d : Nat) (hd : 1 ≤ d) : ∀ n : Nat, (∀ (r0 : Nat) (M : ao_M) (y : Int32 × ao_M), fX7_writesOfAll n 0 r0 0 0 M ρ = some y → ao_W Γ uX7_writesOfAll (ao_rm d 0 0) (ao_Q Γ (ao_PI ρ y) 0 0) 0 0 0 [some (.ref (Γ.2.2.2 + r0)), none, none] [] (M, ρ)) ∧ (∀ (r0 : Nat) (x1 : Int32) (x2 : Int32) (M : ao_M) (y : Int32 × ao_M), fX7_writesOfAll n 4 r0 x1 x2 M ρ = some y → ao_W Γ uX7_writesOfAll (ao_rm d 0 0) (ao_Q Γ (ao_PI ρ y) 0 0) 0 0 4 [some (.ref (Γ.2.2.2 + r0)), some (.int x1), some (.int x2)] [] (M, ρ)) := by
  intro n
  induction n with
  | zero => exact ⟨fun _ _ _ h => ao_no h, fun _ _ _ _ _ h => ao_no h⟩
  | succ n ih =>
    refine ⟨?_, ?_⟩
    · intro r0 M y h
      replace h := ao_ifT h rfl
      refine ao_iconst (v := 0) dX7_writesOfAll_0 (by decide) ?_
      refine ao_istore_n 1 (lo' := [some (.ref (Γ.2.2.2 + r0)), some (.int (0 : Int32)), none]) dX7_writesOfAll_1 rfl (Nat.le_of_ble_eq_true rfl) rfl ?_
      refine ao_iconst (v := 0) dX7_writesOfAll_2 (by decide) ?_
      refine ao_istore_n 2 (lo' := [some (.ref (Γ.2.2.2 + r0)), some (.int (0 : Int32)), some (.int (0 : Int32))]) dX7_writesOfAll_3 rfl (Nat.le_of_ble_eq_true rfl) rfl ?_
      exact ih.2 r0 (0 : Int32) (0 : Int32) M _ h
    · intro r0 x1 x2 M y h
      replace h := ao_ifF h (by decide)
      replace h := ao_ifT h rfl
      refine ao_iload_n 2 dX7_writesOfAll_4 rfl rfl ?_
      refine ao_aload_n 0 dX7_writesOfAll_5 rfl rfl ?_
      obtain ⟨hk1, h⟩ := ao_some h
      refine an_getI r0 7 8 (q := (RX7, TX7, 20)) dX7_writesOfAll_6 rfl hk1 (Nat.le_of_ble_eq_true rfl) rfl lf_X7_62 ?_
      refine ao_icmp_ge 29 dX7_writesOfAll_9 (by decide) (fun c2 => ?_) (fun c2 => ?_)
      · replace h := ao_ifT h c2
        refine ao_iload_n 1 dX7_writesOfAll_29 rfl rfl ?_
        cases h
        exact ao_ireturn dX7_writesOfAll_30 rfl rfl ⟨rfl, rfl⟩
      · replace h := ao_ifF h c2
        refine ao_iload_n 1 dX7_writesOfAll_12 rfl rfl ?_
        refine ao_aload_n 0 dX7_writesOfAll_13 rfl rfl ?_
        refine ao_iload_n 2 dX7_writesOfAll_14 rfl rfl ?_
        obtain ⟨p3, hp3, h⟩ := ao_bind h
        refine an_callVr r0 7 (q := (RX7, TX7, 20)) [.int x2] (aX7_level (d - 1) (by omega) _ r0 x2 M ρ hp3) dX7_writesOfAll_15 lc_X7_89 li_X7_level ls_X7_level rfl hk1 rfl rfl (Nat.le_of_ble_eq_true rfl) (ao_hR (by omega) (by decide)) ?_
        obtain ⟨hk4, h⟩ := ao_some h
        refine an_getI p3.1 3 6 (q := (RX3, TX3, 12)) dX7_writesOfAll_18 rfl hk4 (Nat.le_of_ble_eq_true rfl) rfl lf_X7_138 ?_
        refine ao_ior dX7_writesOfAll_21 ?_
        refine an_topi (fun v5 hv5 => ?_)
        replace h := ao_letD h hv5
        refine ao_istore_n 1 (lo' := [some (.ref (Γ.2.2.2 + r0)), some (.int v5), some (.int x2)]) dX7_writesOfAll_22 rfl (Nat.le_of_ble_eq_true rfl) rfl ?_
        obtain ⟨v6, hv6⟩ : ∃ z : Int32, z = x2 + (1 : Int32) := ⟨_, rfl⟩
        replace h := ao_letD h hv6
        refine ao_iinc 2 (v := v6) (lo' := [some (.ref (Γ.2.2.2 + r0)), some (.int v5), some (.int v6)]) dX7_writesOfAll_23 rfl (by rw [hv6]; rfl) (Nat.le_of_ble_eq_true rfl) rfl ?_
        refine ao_goto 4 dX7_writesOfAll_26 (by decide) ?_
        exact ih.2 r0 v5 v6 p3.2 _ h
set_option maxRecDepth 100000 in
set_option maxHeartbeats 4000000 in
theorem aX7_writesOfAll {Γ : ao_C} (d : Nat) (hd : 1 ≤ d) (n : Nat) (r0 : Nat) (M : ao_M) (ρ : ao_H) {y : Int32 × ao_M} (h : gX7_writesOfAll n r0 M ρ = some y) : ao_A Γ uX7_writesOfAll d 0 0 [.ref (Γ.2.2.2 + r0)] (M, ρ) (ao_PI ρ y) := by
  refine ao_of (by decide) (ao_cat1 (Nat.le_of_ble_eq_true rfl)) (Nat.le_of_ble_eq_true rfl) ?_
  show ao_W Γ uX7_writesOfAll (ao_rm d 0 0) (ao_Q Γ (ao_PI ρ y) 0 0) 0 0 0 [some (.ref (Γ.2.2.2 + r0)), none, none] [] (M, ρ)
  exact (wX7_writesOfAll d hd n).1 r0 M y h

abbrev uX8_init : ao_Mi := (yX8_init, cX8_init, 1, none, [])
def fX8_init : Nat → Nat → Nat → Nat → Nat →  ao_M → ao_H → Option (ao_S)
  | 0, _, _, _, _, _, _ => none
  | n + 1, pc, r0, q0, q1, M, ρ =>
    if pc = 0 then
      (ρ.2.2.2.1).bind fun n1 =>
      if ¬ (200 : Int32) < 0 ∧ (200 : Int32).toNatClampNeg * 8 ≤ 536870912 then
      fX8_init n 10 r0 n1 r0 (ao_zr M n1) (ao_nw ρ n1 0 (200 : Int32).toNatClampNeg (200 : Int32).toNatClampNeg)
      else none
    else if pc = 10 then
      if ρ.2.1 q1 = 18 then
      fX8_init n 13 r0 0 0 M (ao_r ρ q1 0 (some q0))
      else none
    else if pc = 13 then
      (ρ.2.2.2.1).bind fun n4 =>
      if ¬ (200 : Int32) < 0 ∧ (200 : Int32).toNatClampNeg * 8 ≤ 536870912 then
      fX8_init n 19 r0 n4 r0 (ao_zr M n4) (ao_nw ρ n4 0 (200 : Int32).toNatClampNeg (200 : Int32).toNatClampNeg)
      else none
    else if pc = 19 then
      if ρ.2.1 q1 = 18 then
      fX8_init n 22 r0 0 0 M (ao_r ρ q1 1 (some q0))
      else none
    else if pc = 22 then
      some (M, ρ)
    else none
def gX8_init (n : Nat) (r0 : Nat) (M : ao_M) (ρ : ao_H) : Option (ao_S) := fX8_init n 0 r0 0 0 M ρ
set_option maxRecDepth 100000 in
set_option maxHeartbeats 4000000 in
theorem mX8_init : ∀ n : Nat, (∀ (r0 : Nat) (M : ao_M) (ρ : ao_H) (y : ao_S), fX8_init n 0 r0 0 0 M ρ = some y → ao_le ρ y.2) ∧ (∀ (r0 : Nat) (q0 : Nat) (q1 : Nat) (M : ao_M) (ρ : ao_H) (y : ao_S), fX8_init n 10 r0 q0 q1 M ρ = some y → ao_le ρ y.2) ∧ (∀ (r0 : Nat) (M : ao_M) (ρ : ao_H) (y : ao_S), fX8_init n 13 r0 0 0 M ρ = some y → ao_le ρ y.2) ∧ (∀ (r0 : Nat) (q0 : Nat) (q1 : Nat) (M : ao_M) (ρ : ao_H) (y : ao_S), fX8_init n 19 r0 q0 q1 M ρ = some y → ao_le ρ y.2) ∧ (∀ (r0 : Nat) (M : ao_M) (ρ : ao_H) (y : ao_S), fX8_init n 22 r0 0 0 M ρ = some y → ao_le ρ y.2) := by
  intro n
  induction n with
  | zero => exact ⟨fun _ _ _ _ h => ao_no h, fun _ _ _ _ _ _ h => ao_no h, fun _ _ _ _ h => ao_no h, fun _ _ _ _ _ _ h => ao_no h, fun _ _ _ _ h => ao_no h⟩
  | succ n ih =>
    refine ⟨?_, ?_, ?_, ?_, ?_⟩
    · intro r0 M ρ y h
      replace h := ao_ifT h rfl
      obtain ⟨n1, hn1, h⟩ := ao_bind h
      obtain ⟨-, h⟩ := ao_some h
      exact ao_le_tr (ao_le_nw _ _ _ _ _) (ih.2.1 r0 n1 r0 (ao_zr M n1) (ao_nw ρ n1 0 (200 : Int32).toNatClampNeg (200 : Int32).toNatClampNeg) _ h)
    · intro r0 q0 q1 M ρ y h
      replace h := ao_ifF h (by decide)
      replace h := ao_ifT h rfl
      obtain ⟨-, h⟩ := ao_some h
      exact ao_le_tr (ao_le_r _ _ _ _) (ih.2.2.1 r0 M (ao_r ρ q1 0 (some q0)) _ h)
    · intro r0 M ρ y h
      replace h := ao_ifF h (by decide)
      replace h := ao_ifF h (by decide)
      replace h := ao_ifT h rfl
      obtain ⟨n4, hn4, h⟩ := ao_bind h
      obtain ⟨-, h⟩ := ao_some h
      exact ao_le_tr (ao_le_nw _ _ _ _ _) (ih.2.2.2.1 r0 n4 r0 (ao_zr M n4) (ao_nw ρ n4 0 (200 : Int32).toNatClampNeg (200 : Int32).toNatClampNeg) _ h)
    · intro r0 q0 q1 M ρ y h
      replace h := ao_ifF h (by decide)
      replace h := ao_ifF h (by decide)
      replace h := ao_ifF h (by decide)
      replace h := ao_ifT h rfl
      obtain ⟨-, h⟩ := ao_some h
      exact ao_le_tr (ao_le_r _ _ _ _) (ih.2.2.2.2 r0 M (ao_r ρ q1 1 (some q0)) _ h)
    · intro r0 M ρ y h
      replace h := ao_ifF h (by decide)
      replace h := ao_ifF h (by decide)
      replace h := ao_ifF h (by decide)
      replace h := ao_ifF h (by decide)
      replace h := ao_ifT h rfl
      cases h
      exact ao_le_rf _
set_option maxRecDepth 100000 in
set_option maxHeartbeats 4000000 in
theorem wX8_init {Γ : ao_C} (d : Nat) (hd : 1 ≤ d) (MC MS : Nat) : ∀ n : Nat, (∀ (r0 : Nat) (M : ao_M) (ρ : ao_H) (y : ao_S), fX8_init n 0 r0 0 0 M ρ = some y → ao_W Γ uX8_init (ao_rm d MC MS) (ao_Q Γ (ao_QV y) MC MS) (ao_dc ρ y.2) (ao_ds ρ y.2) 0 [some (.ref (Γ.2.2.2 + r0))] [] (M, ρ)) ∧ (∀ (r0 : Nat) (q0 : Nat) (q1 : Nat) (M : ao_M) (ρ : ao_H) (y : ao_S), fX8_init n 10 r0 q0 q1 M ρ = some y → ao_W Γ uX8_init (ao_rm d MC MS) (ao_Q Γ (ao_QV y) MC MS) (ao_dc ρ y.2) (ao_ds ρ y.2) 10 [some (.ref (Γ.2.2.2 + r0))] [.ref (Γ.2.2.2 + q0), .ref (Γ.2.2.2 + q1)] (M, ρ)) ∧ (∀ (r0 : Nat) (M : ao_M) (ρ : ao_H) (y : ao_S), fX8_init n 13 r0 0 0 M ρ = some y → ao_W Γ uX8_init (ao_rm d MC MS) (ao_Q Γ (ao_QV y) MC MS) (ao_dc ρ y.2) (ao_ds ρ y.2) 13 [some (.ref (Γ.2.2.2 + r0))] [] (M, ρ)) ∧ (∀ (r0 : Nat) (q0 : Nat) (q1 : Nat) (M : ao_M) (ρ : ao_H) (y : ao_S), fX8_init n 19 r0 q0 q1 M ρ = some y → ao_W Γ uX8_init (ao_rm d MC MS) (ao_Q Γ (ao_QV y) MC MS) (ao_dc ρ y.2) (ao_ds ρ y.2) 19 [some (.ref (Γ.2.2.2 + r0))] [.ref (Γ.2.2.2 + q0), .ref (Γ.2.2.2 + q1)] (M, ρ)) ∧ (∀ (r0 : Nat) (M : ao_M) (ρ : ao_H) (y : ao_S), fX8_init n 22 r0 0 0 M ρ = some y → ao_W Γ uX8_init (ao_rm d MC MS) (ao_Q Γ (ao_QV y) MC MS) (ao_dc ρ y.2) (ao_ds ρ y.2) 22 [some (.ref (Γ.2.2.2 + r0))] [] (M, ρ)) := by
  intro n
  induction n with
  | zero => exact ⟨fun _ _ _ _ h => ao_no h, fun _ _ _ _ _ _ h => ao_no h, fun _ _ _ _ h => ao_no h, fun _ _ _ _ _ _ h => ao_no h, fun _ _ _ _ h => ao_no h⟩
  | succ n ih =>
    refine ⟨?_, ?_, ?_, ?_, ?_⟩
    · intro r0 M ρ y h
      replace h := ao_ifT h rfl
      refine ao_aload_n 0 dX8_init_0 rfl rfl ?_
      refine bi_obj dX8_init_1 loi_X8_3 (Nat.le_of_ble_eq_true rfl) (ao_cpR (by omega)) ?_
      refine ao_aload_n 0 dX8_init_4 rfl rfl ?_
      refine ao_sipush (v := 200) dX8_init_5 (by decide) ?_
      obtain ⟨n1, hn1, h⟩ := ao_bind h
      obtain ⟨hb2, h⟩ := ao_some h
      refine ba_newa n1 0 dX8_init_8 rfl (by decide) hn1 lna_0 hb2.1 hb2.2 (ao_dc_nw ((mX8_init n).2.1 r0 n1 r0 (ao_zr M n1) (ao_nw ρ n1 0 (200 : Int32).toNatClampNeg (200 : Int32).toNatClampNeg) _ h)) ?_
      exact ih.2.1 r0 n1 r0 (ao_zr M n1) (ao_nw ρ n1 0 (200 : Int32).toNatClampNeg (200 : Int32).toNatClampNeg) _ h
    · intro r0 q0 q1 M ρ y h
      replace h := ao_ifF h (by decide)
      replace h := ao_ifT h rfl
      obtain ⟨hk3, h⟩ := ao_some h
      refine ba_putR q1 8 0 (q := (RX8, TX8, 3)) dX8_init_10 rfl hk3 (Nat.le_of_ble_eq_true rfl) lf_X8_9 (Or.inr ⟨rfl, rfl⟩) rfl rfl rfl ?_
      exact ih.2.2.1 r0 M (ao_r ρ q1 0 (some q0)) _ h
    · intro r0 M ρ y h
      replace h := ao_ifF h (by decide)
      replace h := ao_ifF h (by decide)
      replace h := ao_ifT h rfl
      refine ao_aload_n 0 dX8_init_13 rfl rfl ?_
      refine ao_sipush (v := 200) dX8_init_14 (by decide) ?_
      obtain ⟨n4, hn4, h⟩ := ao_bind h
      obtain ⟨hb5, h⟩ := ao_some h
      refine ba_newa n4 0 dX8_init_17 rfl (by decide) hn4 lna_0 hb5.1 hb5.2 (ao_dc_nw ((mX8_init n).2.2.2.1 r0 n4 r0 (ao_zr M n4) (ao_nw ρ n4 0 (200 : Int32).toNatClampNeg (200 : Int32).toNatClampNeg) _ h)) ?_
      exact ih.2.2.2.1 r0 n4 r0 (ao_zr M n4) (ao_nw ρ n4 0 (200 : Int32).toNatClampNeg (200 : Int32).toNatClampNeg) _ h
    · intro r0 q0 q1 M ρ y h
      replace h := ao_ifF h (by decide)
      replace h := ao_ifF h (by decide)
      replace h := ao_ifF h (by decide)
      replace h := ao_ifT h rfl
      obtain ⟨hk6, h⟩ := ao_some h
      refine ba_putR q1 8 1 (q := (RX8, TX8, 3)) dX8_init_19 rfl hk6 (Nat.le_of_ble_eq_true rfl) lf_X8_15 (Or.inr ⟨rfl, rfl⟩) rfl rfl rfl ?_
      exact ih.2.2.2.2 r0 M (ao_r ρ q1 1 (some q0)) _ h
    · intro r0 M ρ y h
      replace h := ao_ifF h (by decide)
      replace h := ao_ifF h (by decide)
      replace h := ao_ifF h (by decide)
      replace h := ao_ifF h (by decide)
      replace h := ao_ifT h rfl
      cases h
      exact ao_return dX8_init_22 rfl ⟨rfl, rfl⟩
theorem me_X8_init (n : Nat) (r0 : Nat) (M : ao_M) (ρ : ao_H) {y : ao_S} (h : gX8_init n r0 M ρ = some y) : ao_le ρ y.2 := (mX8_init n).1 r0 M ρ y h
set_option maxRecDepth 100000 in
set_option maxHeartbeats 4000000 in
theorem aX8_init {Γ : ao_C} (d : Nat) (hd : 1 ≤ d) (n : Nat) (r0 : Nat) (M : ao_M) (ρ : ao_H) {y : ao_S} (h : gX8_init n r0 M ρ = some y) : ao_A Γ uX8_init d (ao_dc ρ y.2) (ao_ds ρ y.2) [.ref (Γ.2.2.2 + r0)] (M, ρ) (ao_QV y) := by
  refine ao_of (by decide) (ao_cat1 (Nat.le_of_ble_eq_true rfl)) (Nat.le_of_ble_eq_true rfl) ?_
  show ao_W Γ uX8_init (ao_rm d (ao_dc ρ y.2) (ao_ds ρ y.2)) (ao_Q Γ (ao_QV y) (ao_dc ρ y.2) (ao_ds ρ y.2)) (ao_dc ρ y.2) (ao_ds ρ y.2) 0 [some (.ref (Γ.2.2.2 + r0))] [] (M, ρ)
  exact (wX8_init d hd _ _ n).1 r0 M ρ y h

abbrev uX8_add : ao_Mi := (yX8_add, cX8_add, 3, none, [])
def gX8_add (r0 : Nat) (x1 : Int32) (x2 : Int32) (M : ao_M) (ρ : ao_H) : Option (ao_M) :=
  if ρ.2.1 r0 = 18 then
  if (M r0 2) < 0 then
    some M
  else
    if (200 : Int32) ≤ (M r0 2) then
      some M
    else
      (ρ.1 r0 0).bind fun j4 =>
      if ρ.2.1 j4 = 0 then
      if ¬ ((M r0 2) < 0 ∨ ρ.2.2.1 j4 ≤ (M r0 2).toNatClampNeg) then
      ao_let (ao_u M j4 (M r0 2).toNatClampNeg x1) fun M7 =>
      (ρ.1 r0 1).bind fun j8 =>
      if ρ.2.1 j8 = 0 then
      if ¬ ((M7 r0 2) < 0 ∨ ρ.2.2.1 j8 ≤ (M7 r0 2).toNatClampNeg) then
      ao_let (ao_u M7 j8 (M7 r0 2).toNatClampNeg x2) fun M11 =>
      ao_let (ao_u M11 r0 2 ((M11 r0 2) + (1 : Int32))) fun M12 =>
      some M12
      else none
      else none
      else none
      else none
  else none
set_option maxRecDepth 100000 in
set_option maxHeartbeats 4000000 in
theorem aX8_add {Γ : ao_C} (d : Nat) (hd : 0 ≤ d) (r0 : Nat) (x1 : Int32) (x2 : Int32) (M : ao_M) (ρ : ao_H) {y : ao_M} (h : gX8_add r0 x1 x2 M ρ = some y) : ao_A Γ uX8_add d 0 0 [.ref (Γ.2.2.2 + r0), .int x1, .int x2] (M, ρ) (ao_PV ρ y) := by
  refine ao_of (by decide) (ao_cat1 (Nat.le_of_ble_eq_true rfl)) (Nat.le_of_ble_eq_true rfl) ?_
  show ao_W Γ uX8_add (ao_rm d 0 0) (ao_Q Γ (ao_PV ρ y) 0 0) 0 0 0 [some (.ref (Γ.2.2.2 + r0)), some (.int x1), some (.int x2)] [] (M, ρ)
  unfold gX8_add at h
  refine ao_aload_n 0 dX8_add_0 rfl rfl ?_
  obtain ⟨hk1, h⟩ := ao_some h
  refine an_getI r0 8 2 (q := (RX8, TX8, 3)) dX8_add_1 rfl hk1 (Nat.le_of_ble_eq_true rfl) rfl lf_X8_18 ?_
  refine ao_if_lt 47 dX8_add_4 (by decide) (fun c2 => ?_) (fun c2 => ?_)
  · replace h := ao_ifT h c2
    cases h
    exact ao_return dX8_add_47 rfl ⟨rfl, rfl⟩
  · replace h := ao_ifF h c2
    refine ao_aload_n 0 dX8_add_7 rfl rfl ?_
    refine an_getI r0 8 2 (q := (RX8, TX8, 3)) dX8_add_8 rfl hk1 (Nat.le_of_ble_eq_true rfl) rfl lf_X8_18 ?_
    refine ao_sipush (v := 200) dX8_add_11 (by decide) ?_
    refine ao_icmp_ge 47 dX8_add_14 (by decide) (fun c3 => ?_) (fun c3 => ?_)
    · replace h := ao_ifT h c3
      cases h
      exact ao_return dX8_add_47 rfl ⟨rfl, rfl⟩
    · replace h := ao_ifF h c3
      refine ao_aload_n 0 dX8_add_17 rfl rfl ?_
      obtain ⟨j4, hj4, h⟩ := ao_bind h
      refine an_getR r0 8 0 (q := (RX8, TX8, 3)) dX8_add_18 rfl hk1 (Nat.le_of_ble_eq_true rfl) rfl lf_X8_9 hj4 ?_
      refine ao_aload_n 0 dX8_add_21 rfl rfl ?_
      refine an_getI r0 8 2 (q := (RX8, TX8, 3)) dX8_add_22 rfl hk1 (Nat.le_of_ble_eq_true rfl) rfl lf_X8_18 ?_
      refine ao_iload_n 1 dX8_add_25 rfl rfl ?_
      obtain ⟨hk5, h⟩ := ao_some h
      obtain ⟨hb6, h⟩ := ao_some h
      refine an_iastore j4 dX8_add_26 hk5 hb6 (fun M7 hM7 => ?_)
      replace h := ao_letD h hM7
      refine ao_aload_n 0 dX8_add_27 rfl rfl ?_
      obtain ⟨j8, hj8, h⟩ := ao_bind h
      refine an_getR r0 8 1 (q := (RX8, TX8, 3)) dX8_add_28 rfl hk1 (Nat.le_of_ble_eq_true rfl) rfl lf_X8_15 hj8 ?_
      refine ao_aload_n 0 dX8_add_31 rfl rfl ?_
      refine an_getI r0 8 2 (q := (RX8, TX8, 3)) dX8_add_32 rfl hk1 (Nat.le_of_ble_eq_true rfl) rfl lf_X8_18 ?_
      refine ao_iload_n 2 dX8_add_35 rfl rfl ?_
      obtain ⟨hk9, h⟩ := ao_some h
      obtain ⟨hb10, h⟩ := ao_some h
      refine an_iastore j8 dX8_add_36 hk9 hb10 (fun M11 hM11 => ?_)
      replace h := ao_letD h hM11
      refine ao_aload_n 0 dX8_add_37 rfl rfl ?_
      refine ao_dup dX8_add_38 rfl ?_
      refine an_getI r0 8 2 (q := (RX8, TX8, 3)) dX8_add_39 rfl hk1 (Nat.le_of_ble_eq_true rfl) rfl lf_X8_18 ?_
      refine ao_iconst (v := 1) dX8_add_42 (by decide) ?_
      refine ao_iadd dX8_add_43 ?_
      refine an_putI r0 8 2 (q := (RX8, TX8, 3)) dX8_add_44 rfl hk1 (Nat.le_of_ble_eq_true rfl) lf_X8_18 rfl rfl rfl rfl (fun M12 hM12 => ?_)
      replace h := ao_letD h hM12
      cases h
      exact ao_return dX8_add_47 rfl ⟨rfl, rfl⟩

abbrev uX9_init : ao_Mi := (yX9_init, cX9_init, 1, none, [])
def fX9_init : Nat → Nat → Nat → Nat → Nat →  ao_M → ao_H → Option (ao_S)
  | 0, _, _, _, _, _, _ => none
  | n + 1, pc, r0, q0, q1, M, ρ =>
    if pc = 0 then
      (ρ.2.2.2.1).bind fun n1 =>
      if ¬ (0 : Int32) < 0 ∧ (0 : Int32).toNatClampNeg * 8 ≤ 536870912 then
      fX9_init n 8 r0 n1 r0 (ao_zr M n1) (ao_nw ρ n1 1 (0 : Int32).toNatClampNeg (0 : Int32).toNatClampNeg)
      else none
    else if pc = 8 then
      if ρ.2.1 q1 = 19 then
      fX9_init n 11 r0 0 0 M (ao_r ρ q1 0 (some q0))
      else none
    else if pc = 11 then
      (ρ.2.2.2.1).bind fun n4 =>
      if ¬ (1001 : Int32) < 0 ∧ (1001 : Int32).toNatClampNeg * 8 ≤ 536870912 then
      fX9_init n 17 r0 n4 r0 (ao_zr M n4) (ao_nw ρ n4 0 (1001 : Int32).toNatClampNeg (1001 : Int32).toNatClampNeg)
      else none
    else if pc = 17 then
      if ρ.2.1 q1 = 19 then
      fX9_init n 20 r0 0 0 M (ao_r ρ q1 3 (some q0))
      else none
    else if pc = 20 then
      (ρ.2.2.2.1).bind fun n7 =>
      if ¬ (1001 : Int32) < 0 ∧ (1001 : Int32).toNatClampNeg * 8 ≤ 536870912 then
      fX9_init n 26 r0 n7 r0 (ao_zr M n7) (ao_nw ρ n7 0 (1001 : Int32).toNatClampNeg (1001 : Int32).toNatClampNeg)
      else none
    else if pc = 26 then
      if ρ.2.1 q1 = 19 then
      fX9_init n 29 r0 0 0 M (ao_r ρ q1 4 (some q0))
      else none
    else if pc = 29 then
      (ρ.2.2.2.1).bind fun n10 =>
      if ¬ (1001 : Int32) < 0 ∧ (1001 : Int32).toNatClampNeg * 8 ≤ 536870912 then
      fX9_init n 35 r0 n10 r0 (ao_zr M n10) (ao_nw ρ n10 0 (1001 : Int32).toNatClampNeg (1001 : Int32).toNatClampNeg)
      else none
    else if pc = 35 then
      if ρ.2.1 q1 = 19 then
      fX9_init n 38 r0 0 0 M (ao_r ρ q1 5 (some q0))
      else none
    else if pc = 38 then
      some (M, ρ)
    else none
def gX9_init (n : Nat) (r0 : Nat) (M : ao_M) (ρ : ao_H) : Option (ao_S) := fX9_init n 0 r0 0 0 M ρ
set_option maxRecDepth 100000 in
set_option maxHeartbeats 4000000 in
theorem mX9_init : ∀ n : Nat, (∀ (r0 : Nat) (M : ao_M) (ρ : ao_H) (y : ao_S), fX9_init n 0 r0 0 0 M ρ = some y → ao_le ρ y.2) ∧ (∀ (r0 : Nat) (q0 : Nat) (q1 : Nat) (M : ao_M) (ρ : ao_H) (y : ao_S), fX9_init n 8 r0 q0 q1 M ρ = some y → ao_le ρ y.2) ∧ (∀ (r0 : Nat) (M : ao_M) (ρ : ao_H) (y : ao_S), fX9_init n 11 r0 0 0 M ρ = some y → ao_le ρ y.2) ∧ (∀ (r0 : Nat) (q0 : Nat) (q1 : Nat) (M : ao_M) (ρ : ao_H) (y : ao_S), fX9_init n 17 r0 q0 q1 M ρ = some y → ao_le ρ y.2) ∧ (∀ (r0 : Nat) (M : ao_M) (ρ : ao_H) (y : ao_S), fX9_init n 20 r0 0 0 M ρ = some y → ao_le ρ y.2) ∧ (∀ (r0 : Nat) (q0 : Nat) (q1 : Nat) (M : ao_M) (ρ : ao_H) (y : ao_S), fX9_init n 26 r0 q0 q1 M ρ = some y → ao_le ρ y.2) ∧ (∀ (r0 : Nat) (M : ao_M) (ρ : ao_H) (y : ao_S), fX9_init n 29 r0 0 0 M ρ = some y → ao_le ρ y.2) ∧ (∀ (r0 : Nat) (q0 : Nat) (q1 : Nat) (M : ao_M) (ρ : ao_H) (y : ao_S), fX9_init n 35 r0 q0 q1 M ρ = some y → ao_le ρ y.2) ∧ (∀ (r0 : Nat) (M : ao_M) (ρ : ao_H) (y : ao_S), fX9_init n 38 r0 0 0 M ρ = some y → ao_le ρ y.2) := by
  intro n
  induction n with
  | zero => exact ⟨fun _ _ _ _ h => ao_no h, fun _ _ _ _ _ _ h => ao_no h, fun _ _ _ _ h => ao_no h, fun _ _ _ _ _ _ h => ao_no h, fun _ _ _ _ h => ao_no h, fun _ _ _ _ _ _ h => ao_no h, fun _ _ _ _ h => ao_no h, fun _ _ _ _ _ _ h => ao_no h, fun _ _ _ _ h => ao_no h⟩
  | succ n ih =>
    refine ⟨?_, ?_, ?_, ?_, ?_, ?_, ?_, ?_, ?_⟩
    · intro r0 M ρ y h
      replace h := ao_ifT h rfl
      obtain ⟨n1, hn1, h⟩ := ao_bind h
      obtain ⟨-, h⟩ := ao_some h
      exact ao_le_tr (ao_le_nw _ _ _ _ _) (ih.2.1 r0 n1 r0 (ao_zr M n1) (ao_nw ρ n1 1 (0 : Int32).toNatClampNeg (0 : Int32).toNatClampNeg) _ h)
    · intro r0 q0 q1 M ρ y h
      replace h := ao_ifF h (by decide)
      replace h := ao_ifT h rfl
      obtain ⟨-, h⟩ := ao_some h
      exact ao_le_tr (ao_le_r _ _ _ _) (ih.2.2.1 r0 M (ao_r ρ q1 0 (some q0)) _ h)
    · intro r0 M ρ y h
      replace h := ao_ifF h (by decide)
      replace h := ao_ifF h (by decide)
      replace h := ao_ifT h rfl
      obtain ⟨n4, hn4, h⟩ := ao_bind h
      obtain ⟨-, h⟩ := ao_some h
      exact ao_le_tr (ao_le_nw _ _ _ _ _) (ih.2.2.2.1 r0 n4 r0 (ao_zr M n4) (ao_nw ρ n4 0 (1001 : Int32).toNatClampNeg (1001 : Int32).toNatClampNeg) _ h)
    · intro r0 q0 q1 M ρ y h
      replace h := ao_ifF h (by decide)
      replace h := ao_ifF h (by decide)
      replace h := ao_ifF h (by decide)
      replace h := ao_ifT h rfl
      obtain ⟨-, h⟩ := ao_some h
      exact ao_le_tr (ao_le_r _ _ _ _) (ih.2.2.2.2.1 r0 M (ao_r ρ q1 3 (some q0)) _ h)
    · intro r0 M ρ y h
      replace h := ao_ifF h (by decide)
      replace h := ao_ifF h (by decide)
      replace h := ao_ifF h (by decide)
      replace h := ao_ifF h (by decide)
      replace h := ao_ifT h rfl
      obtain ⟨n7, hn7, h⟩ := ao_bind h
      obtain ⟨-, h⟩ := ao_some h
      exact ao_le_tr (ao_le_nw _ _ _ _ _) (ih.2.2.2.2.2.1 r0 n7 r0 (ao_zr M n7) (ao_nw ρ n7 0 (1001 : Int32).toNatClampNeg (1001 : Int32).toNatClampNeg) _ h)
    · intro r0 q0 q1 M ρ y h
      replace h := ao_ifF h (by decide)
      replace h := ao_ifF h (by decide)
      replace h := ao_ifF h (by decide)
      replace h := ao_ifF h (by decide)
      replace h := ao_ifF h (by decide)
      replace h := ao_ifT h rfl
      obtain ⟨-, h⟩ := ao_some h
      exact ao_le_tr (ao_le_r _ _ _ _) (ih.2.2.2.2.2.2.1 r0 M (ao_r ρ q1 4 (some q0)) _ h)
    · intro r0 M ρ y h
      replace h := ao_ifF h (by decide)
      replace h := ao_ifF h (by decide)
      replace h := ao_ifF h (by decide)
      replace h := ao_ifF h (by decide)
      replace h := ao_ifF h (by decide)
      replace h := ao_ifF h (by decide)
      replace h := ao_ifT h rfl
      obtain ⟨n10, hn10, h⟩ := ao_bind h
      obtain ⟨-, h⟩ := ao_some h
      exact ao_le_tr (ao_le_nw _ _ _ _ _) (ih.2.2.2.2.2.2.2.1 r0 n10 r0 (ao_zr M n10) (ao_nw ρ n10 0 (1001 : Int32).toNatClampNeg (1001 : Int32).toNatClampNeg) _ h)
    · intro r0 q0 q1 M ρ y h
      replace h := ao_ifF h (by decide)
      replace h := ao_ifF h (by decide)
      replace h := ao_ifF h (by decide)
      replace h := ao_ifF h (by decide)
      replace h := ao_ifF h (by decide)
      replace h := ao_ifF h (by decide)
      replace h := ao_ifF h (by decide)
      replace h := ao_ifT h rfl
      obtain ⟨-, h⟩ := ao_some h
      exact ao_le_tr (ao_le_r _ _ _ _) (ih.2.2.2.2.2.2.2.2 r0 M (ao_r ρ q1 5 (some q0)) _ h)
    · intro r0 M ρ y h
      replace h := ao_ifF h (by decide)
      replace h := ao_ifF h (by decide)
      replace h := ao_ifF h (by decide)
      replace h := ao_ifF h (by decide)
      replace h := ao_ifF h (by decide)
      replace h := ao_ifF h (by decide)
      replace h := ao_ifF h (by decide)
      replace h := ao_ifF h (by decide)
      replace h := ao_ifT h rfl
      cases h
      exact ao_le_rf _
set_option maxRecDepth 100000 in
set_option maxHeartbeats 4000000 in
theorem wX9_init {Γ : ao_C} (d : Nat) (hd : 1 ≤ d) (MC MS : Nat) : ∀ n : Nat, (∀ (r0 : Nat) (M : ao_M) (ρ : ao_H) (y : ao_S), fX9_init n 0 r0 0 0 M ρ = some y → ao_W Γ uX9_init (ao_rm d MC MS) (ao_Q Γ (ao_QV y) MC MS) (ao_dc ρ y.2) (ao_ds ρ y.2) 0 [some (.ref (Γ.2.2.2 + r0))] [] (M, ρ)) ∧ (∀ (r0 : Nat) (q0 : Nat) (q1 : Nat) (M : ao_M) (ρ : ao_H) (y : ao_S), fX9_init n 8 r0 q0 q1 M ρ = some y → ao_W Γ uX9_init (ao_rm d MC MS) (ao_Q Γ (ao_QV y) MC MS) (ao_dc ρ y.2) (ao_ds ρ y.2) 8 [some (.ref (Γ.2.2.2 + r0))] [.ref (Γ.2.2.2 + q0), .ref (Γ.2.2.2 + q1)] (M, ρ)) ∧ (∀ (r0 : Nat) (M : ao_M) (ρ : ao_H) (y : ao_S), fX9_init n 11 r0 0 0 M ρ = some y → ao_W Γ uX9_init (ao_rm d MC MS) (ao_Q Γ (ao_QV y) MC MS) (ao_dc ρ y.2) (ao_ds ρ y.2) 11 [some (.ref (Γ.2.2.2 + r0))] [] (M, ρ)) ∧ (∀ (r0 : Nat) (q0 : Nat) (q1 : Nat) (M : ao_M) (ρ : ao_H) (y : ao_S), fX9_init n 17 r0 q0 q1 M ρ = some y → ao_W Γ uX9_init (ao_rm d MC MS) (ao_Q Γ (ao_QV y) MC MS) (ao_dc ρ y.2) (ao_ds ρ y.2) 17 [some (.ref (Γ.2.2.2 + r0))] [.ref (Γ.2.2.2 + q0), .ref (Γ.2.2.2 + q1)] (M, ρ)) ∧ (∀ (r0 : Nat) (M : ao_M) (ρ : ao_H) (y : ao_S), fX9_init n 20 r0 0 0 M ρ = some y → ao_W Γ uX9_init (ao_rm d MC MS) (ao_Q Γ (ao_QV y) MC MS) (ao_dc ρ y.2) (ao_ds ρ y.2) 20 [some (.ref (Γ.2.2.2 + r0))] [] (M, ρ)) ∧ (∀ (r0 : Nat) (q0 : Nat) (q1 : Nat) (M : ao_M) (ρ : ao_H) (y : ao_S), fX9_init n 26 r0 q0 q1 M ρ = some y → ao_W Γ uX9_init (ao_rm d MC MS) (ao_Q Γ (ao_QV y) MC MS) (ao_dc ρ y.2) (ao_ds ρ y.2) 26 [some (.ref (Γ.2.2.2 + r0))] [.ref (Γ.2.2.2 + q0), .ref (Γ.2.2.2 + q1)] (M, ρ)) ∧ (∀ (r0 : Nat) (M : ao_M) (ρ : ao_H) (y : ao_S), fX9_init n 29 r0 0 0 M ρ = some y → ao_W Γ uX9_init (ao_rm d MC MS) (ao_Q Γ (ao_QV y) MC MS) (ao_dc ρ y.2) (ao_ds ρ y.2) 29 [some (.ref (Γ.2.2.2 + r0))] [] (M, ρ)) ∧ (∀ (r0 : Nat) (q0 : Nat) (q1 : Nat) (M : ao_M) (ρ : ao_H) (y : ao_S), fX9_init n 35 r0 q0 q1 M ρ = some y → ao_W Γ uX9_init (ao_rm d MC MS) (ao_Q Γ (ao_QV y) MC MS) (ao_dc ρ y.2) (ao_ds ρ y.2) 35 [some (.ref (Γ.2.2.2 + r0))] [.ref (Γ.2.2.2 + q0), .ref (Γ.2.2.2 + q1)] (M, ρ)) ∧ (∀ (r0 : Nat) (M : ao_M) (ρ : ao_H) (y : ao_S), fX9_init n 38 r0 0 0 M ρ = some y → ao_W Γ uX9_init (ao_rm d MC MS) (ao_Q Γ (ao_QV y) MC MS) (ao_dc ρ y.2) (ao_ds ρ y.2) 38 [some (.ref (Γ.2.2.2 + r0))] [] (M, ρ)) := by
  intro n
  induction n with
  | zero => exact ⟨fun _ _ _ _ h => ao_no h, fun _ _ _ _ _ _ h => ao_no h, fun _ _ _ _ h => ao_no h, fun _ _ _ _ _ _ h => ao_no h, fun _ _ _ _ h => ao_no h, fun _ _ _ _ _ _ h => ao_no h, fun _ _ _ _ h => ao_no h, fun _ _ _ _ _ _ h => ao_no h, fun _ _ _ _ h => ao_no h⟩
  | succ n ih =>
    refine ⟨?_, ?_, ?_, ?_, ?_, ?_, ?_, ?_, ?_⟩
    · intro r0 M ρ y h
      replace h := ao_ifT h rfl
      refine ao_aload_n 0 dX9_init_0 rfl rfl ?_
      refine bi_obj dX9_init_1 loi_X9_3 (Nat.le_of_ble_eq_true rfl) (ao_cpR (by omega)) ?_
      refine ao_aload_n 0 dX9_init_4 rfl rfl ?_
      refine ao_iconst (v := 0) dX9_init_5 (by decide) ?_
      obtain ⟨n1, hn1, h⟩ := ao_bind h
      obtain ⟨hb2, h⟩ := ao_some h
      refine ba_newa n1 1 dX9_init_6 rfl (by decide) hn1 lna_1 hb2.1 hb2.2 (ao_dc_nw ((mX9_init n).2.1 r0 n1 r0 (ao_zr M n1) (ao_nw ρ n1 1 (0 : Int32).toNatClampNeg (0 : Int32).toNatClampNeg) _ h)) ?_
      exact ih.2.1 r0 n1 r0 (ao_zr M n1) (ao_nw ρ n1 1 (0 : Int32).toNatClampNeg (0 : Int32).toNatClampNeg) _ h
    · intro r0 q0 q1 M ρ y h
      replace h := ao_ifF h (by decide)
      replace h := ao_ifT h rfl
      obtain ⟨hk3, h⟩ := ao_some h
      refine ba_putR q1 9 0 (q := (RX9, TX9, 11)) dX9_init_8 rfl hk3 (Nat.le_of_ble_eq_true rfl) lf_X9_9 (Or.inl rfl) rfl rfl rfl ?_
      exact ih.2.2.1 r0 M (ao_r ρ q1 0 (some q0)) _ h
    · intro r0 M ρ y h
      replace h := ao_ifF h (by decide)
      replace h := ao_ifF h (by decide)
      replace h := ao_ifT h rfl
      refine ao_aload_n 0 dX9_init_11 rfl rfl ?_
      refine ao_sipush (v := 1001) dX9_init_12 (by decide) ?_
      obtain ⟨n4, hn4, h⟩ := ao_bind h
      obtain ⟨hb5, h⟩ := ao_some h
      refine ba_newa n4 0 dX9_init_15 rfl (by decide) hn4 lna_0 hb5.1 hb5.2 (ao_dc_nw ((mX9_init n).2.2.2.1 r0 n4 r0 (ao_zr M n4) (ao_nw ρ n4 0 (1001 : Int32).toNatClampNeg (1001 : Int32).toNatClampNeg) _ h)) ?_
      exact ih.2.2.2.1 r0 n4 r0 (ao_zr M n4) (ao_nw ρ n4 0 (1001 : Int32).toNatClampNeg (1001 : Int32).toNatClampNeg) _ h
    · intro r0 q0 q1 M ρ y h
      replace h := ao_ifF h (by decide)
      replace h := ao_ifF h (by decide)
      replace h := ao_ifF h (by decide)
      replace h := ao_ifT h rfl
      obtain ⟨hk6, h⟩ := ao_some h
      refine ba_putR q1 9 3 (q := (RX9, TX9, 11)) dX9_init_17 rfl hk6 (Nat.le_of_ble_eq_true rfl) lf_X9_15 (Or.inr ⟨rfl, rfl⟩) rfl rfl rfl ?_
      exact ih.2.2.2.2.1 r0 M (ao_r ρ q1 3 (some q0)) _ h
    · intro r0 M ρ y h
      replace h := ao_ifF h (by decide)
      replace h := ao_ifF h (by decide)
      replace h := ao_ifF h (by decide)
      replace h := ao_ifF h (by decide)
      replace h := ao_ifT h rfl
      refine ao_aload_n 0 dX9_init_20 rfl rfl ?_
      refine ao_sipush (v := 1001) dX9_init_21 (by decide) ?_
      obtain ⟨n7, hn7, h⟩ := ao_bind h
      obtain ⟨hb8, h⟩ := ao_some h
      refine ba_newa n7 0 dX9_init_24 rfl (by decide) hn7 lna_0 hb8.1 hb8.2 (ao_dc_nw ((mX9_init n).2.2.2.2.2.1 r0 n7 r0 (ao_zr M n7) (ao_nw ρ n7 0 (1001 : Int32).toNatClampNeg (1001 : Int32).toNatClampNeg) _ h)) ?_
      exact ih.2.2.2.2.2.1 r0 n7 r0 (ao_zr M n7) (ao_nw ρ n7 0 (1001 : Int32).toNatClampNeg (1001 : Int32).toNatClampNeg) _ h
    · intro r0 q0 q1 M ρ y h
      replace h := ao_ifF h (by decide)
      replace h := ao_ifF h (by decide)
      replace h := ao_ifF h (by decide)
      replace h := ao_ifF h (by decide)
      replace h := ao_ifF h (by decide)
      replace h := ao_ifT h rfl
      obtain ⟨hk9, h⟩ := ao_some h
      refine ba_putR q1 9 4 (q := (RX9, TX9, 11)) dX9_init_26 rfl hk9 (Nat.le_of_ble_eq_true rfl) lf_X9_19 (Or.inr ⟨rfl, rfl⟩) rfl rfl rfl ?_
      exact ih.2.2.2.2.2.2.1 r0 M (ao_r ρ q1 4 (some q0)) _ h
    · intro r0 M ρ y h
      replace h := ao_ifF h (by decide)
      replace h := ao_ifF h (by decide)
      replace h := ao_ifF h (by decide)
      replace h := ao_ifF h (by decide)
      replace h := ao_ifF h (by decide)
      replace h := ao_ifF h (by decide)
      replace h := ao_ifT h rfl
      refine ao_aload_n 0 dX9_init_29 rfl rfl ?_
      refine ao_sipush (v := 1001) dX9_init_30 (by decide) ?_
      obtain ⟨n10, hn10, h⟩ := ao_bind h
      obtain ⟨hb11, h⟩ := ao_some h
      refine ba_newa n10 0 dX9_init_33 rfl (by decide) hn10 lna_0 hb11.1 hb11.2 (ao_dc_nw ((mX9_init n).2.2.2.2.2.2.2.1 r0 n10 r0 (ao_zr M n10) (ao_nw ρ n10 0 (1001 : Int32).toNatClampNeg (1001 : Int32).toNatClampNeg) _ h)) ?_
      exact ih.2.2.2.2.2.2.2.1 r0 n10 r0 (ao_zr M n10) (ao_nw ρ n10 0 (1001 : Int32).toNatClampNeg (1001 : Int32).toNatClampNeg) _ h
    · intro r0 q0 q1 M ρ y h
      replace h := ao_ifF h (by decide)
      replace h := ao_ifF h (by decide)
      replace h := ao_ifF h (by decide)
      replace h := ao_ifF h (by decide)
      replace h := ao_ifF h (by decide)
      replace h := ao_ifF h (by decide)
      replace h := ao_ifF h (by decide)
      replace h := ao_ifT h rfl
      obtain ⟨hk12, h⟩ := ao_some h
      refine ba_putR q1 9 5 (q := (RX9, TX9, 11)) dX9_init_35 rfl hk12 (Nat.le_of_ble_eq_true rfl) lf_X9_22 (Or.inr ⟨rfl, rfl⟩) rfl rfl rfl ?_
      exact ih.2.2.2.2.2.2.2.2 r0 M (ao_r ρ q1 5 (some q0)) _ h
    · intro r0 M ρ y h
      replace h := ao_ifF h (by decide)
      replace h := ao_ifF h (by decide)
      replace h := ao_ifF h (by decide)
      replace h := ao_ifF h (by decide)
      replace h := ao_ifF h (by decide)
      replace h := ao_ifF h (by decide)
      replace h := ao_ifF h (by decide)
      replace h := ao_ifF h (by decide)
      replace h := ao_ifT h rfl
      cases h
      exact ao_return dX9_init_38 rfl ⟨rfl, rfl⟩
theorem me_X9_init (n : Nat) (r0 : Nat) (M : ao_M) (ρ : ao_H) {y : ao_S} (h : gX9_init n r0 M ρ = some y) : ao_le ρ y.2 := (mX9_init n).1 r0 M ρ y h
set_option maxRecDepth 100000 in
set_option maxHeartbeats 4000000 in
theorem aX9_init {Γ : ao_C} (d : Nat) (hd : 1 ≤ d) (n : Nat) (r0 : Nat) (M : ao_M) (ρ : ao_H) {y : ao_S} (h : gX9_init n r0 M ρ = some y) : ao_A Γ uX9_init d (ao_dc ρ y.2) (ao_ds ρ y.2) [.ref (Γ.2.2.2 + r0)] (M, ρ) (ao_QV y) := by
  refine ao_of (by decide) (ao_cat1 (Nat.le_of_ble_eq_true rfl)) (Nat.le_of_ble_eq_true rfl) ?_
  show ao_W Γ uX9_init (ao_rm d (ao_dc ρ y.2) (ao_ds ρ y.2)) (ao_Q Γ (ao_QV y) (ao_dc ρ y.2) (ao_ds ρ y.2)) (ao_dc ρ y.2) (ao_ds ρ y.2) 0 [some (.ref (Γ.2.2.2 + r0))] [] (M, ρ)
  exact (wX9_init d hd _ _ n).1 r0 M ρ y h

abbrev uX9_advance : ao_Mi := (yX9_advance, cX9_advance, 1, none, [])
def fX9_advance : Nat → Nat → Nat →  ao_M → ao_H → Option (ao_M)
  | 0, _, _, _, _ => none
  | n + 1, pc, r0, M, ρ =>
    if pc = 0 then
      if ρ.2.1 r0 = 19 then
      if ((M r0 6) - (1 : Int32)) ≤ (M r0 7) then
        fX9_advance n 23 r0 M ρ
      else
        ao_let (ao_u M r0 7 ((M r0 7) + (1 : Int32))) fun M3 =>
        fX9_advance n 23 r0 M3 ρ
      else none
    else if pc = 23 then
      if ρ.2.1 r0 = 19 then
      if (M r0 7) < 0 then
        some M
      else
        if (1001 : Int32) ≤ (M r0 7) then
          some M
        else
          (ρ.1 r0 3).bind fun j7 =>
          if ρ.2.1 j7 = 0 then
          if ¬ ((M r0 7) < 0 ∨ ρ.2.2.1 j7 ≤ (M r0 7).toNatClampNeg) then
          ao_let (ao_u M r0 8 (M j7 (M r0 7).toNatClampNeg)) fun M10 =>
          (ρ.1 r0 4).bind fun j11 =>
          if ρ.2.1 j11 = 0 then
          if ¬ ((M10 r0 7) < 0 ∨ ρ.2.2.1 j11 ≤ (M10 r0 7).toNatClampNeg) then
          ao_let (ao_u M10 r0 9 (M10 j11 (M10 r0 7).toNatClampNeg)) fun M14 =>
          (ρ.1 r0 5).bind fun j15 =>
          if ρ.2.1 j15 = 0 then
          if ¬ ((M14 r0 7) < 0 ∨ ρ.2.2.1 j15 ≤ (M14 r0 7).toNatClampNeg) then
          ao_let (ao_u M14 r0 10 (M14 j15 (M14 r0 7).toNatClampNeg)) fun M18 =>
          some M18
          else none
          else none
          else none
          else none
          else none
          else none
      else none
    else none
def gX9_advance (n : Nat) (r0 : Nat) (M : ao_M) (ρ : ao_H) : Option (ao_M) := fX9_advance n 0 r0 M ρ
set_option maxRecDepth 100000 in
set_option maxHeartbeats 4000000 in
theorem wX9_advance {Γ : ao_C} {ρ : ao_H} (d : Nat) (hd : 0 ≤ d) : ∀ n : Nat, (∀ (r0 : Nat) (M : ao_M) (y : ao_M), fX9_advance n 0 r0 M ρ = some y → ao_W Γ uX9_advance (ao_rm d 0 0) (ao_Q Γ (ao_PV ρ y) 0 0) 0 0 0 [some (.ref (Γ.2.2.2 + r0))] [] (M, ρ)) ∧ (∀ (r0 : Nat) (M : ao_M) (y : ao_M), fX9_advance n 23 r0 M ρ = some y → ao_W Γ uX9_advance (ao_rm d 0 0) (ao_Q Γ (ao_PV ρ y) 0 0) 0 0 23 [some (.ref (Γ.2.2.2 + r0))] [] (M, ρ)) := by
  intro n
  induction n with
  | zero => exact ⟨fun _ _ _ h => ao_no h, fun _ _ _ h => ao_no h⟩
  | succ n ih =>
    refine ⟨?_, ?_⟩
    · intro r0 M y h
      replace h := ao_ifT h rfl
      refine ao_aload_n 0 dX9_advance_0 rfl rfl ?_
      obtain ⟨hk1, h⟩ := ao_some h
      refine an_getI r0 9 7 (q := (RX9, TX9, 11)) dX9_advance_1 rfl hk1 (Nat.le_of_ble_eq_true rfl) rfl lf_X9_47 ?_
      refine ao_aload_n 0 dX9_advance_4 rfl rfl ?_
      refine an_getI r0 9 6 (q := (RX9, TX9, 11)) dX9_advance_5 rfl hk1 (Nat.le_of_ble_eq_true rfl) rfl lf_X9_35 ?_
      refine ao_iconst (v := 1) dX9_advance_8 (by decide) ?_
      refine ao_isub dX9_advance_9 ?_
      refine ao_icmp_ge 23 dX9_advance_10 (by decide) (fun c2 => ?_) (fun c2 => ?_)
      · replace h := ao_ifT h c2
        exact ih.2 r0 M _ h
      · replace h := ao_ifF h c2
        refine ao_aload_n 0 dX9_advance_13 rfl rfl ?_
        refine ao_dup dX9_advance_14 rfl ?_
        refine an_getI r0 9 7 (q := (RX9, TX9, 11)) dX9_advance_15 rfl hk1 (Nat.le_of_ble_eq_true rfl) rfl lf_X9_47 ?_
        refine ao_iconst (v := 1) dX9_advance_18 (by decide) ?_
        refine ao_iadd dX9_advance_19 ?_
        refine an_putI r0 9 7 (q := (RX9, TX9, 11)) dX9_advance_20 rfl hk1 (Nat.le_of_ble_eq_true rfl) lf_X9_47 rfl rfl rfl rfl (fun M3 hM3 => ?_)
        replace h := ao_letD h hM3
        exact ih.2 r0 M3 _ h
    · intro r0 M y h
      replace h := ao_ifF h (by decide)
      replace h := ao_ifT h rfl
      refine ao_aload_n 0 dX9_advance_23 rfl rfl ?_
      obtain ⟨hk4, h⟩ := ao_some h
      refine an_getI r0 9 7 (q := (RX9, TX9, 11)) dX9_advance_24 rfl hk4 (Nat.le_of_ble_eq_true rfl) rfl lf_X9_47 ?_
      refine ao_if_lt 79 dX9_advance_27 (by decide) (fun c5 => ?_) (fun c5 => ?_)
      · replace h := ao_ifT h c5
        cases h
        exact ao_return dX9_advance_79 rfl ⟨rfl, rfl⟩
      · replace h := ao_ifF h c5
        refine ao_aload_n 0 dX9_advance_30 rfl rfl ?_
        refine an_getI r0 9 7 (q := (RX9, TX9, 11)) dX9_advance_31 rfl hk4 (Nat.le_of_ble_eq_true rfl) rfl lf_X9_47 ?_
        refine ao_sipush (v := 1001) dX9_advance_34 (by decide) ?_
        refine ao_icmp_ge 79 dX9_advance_37 (by decide) (fun c6 => ?_) (fun c6 => ?_)
        · replace h := ao_ifT h c6
          cases h
          exact ao_return dX9_advance_79 rfl ⟨rfl, rfl⟩
        · replace h := ao_ifF h c6
          refine ao_aload_n 0 dX9_advance_40 rfl rfl ?_
          refine ao_aload_n 0 dX9_advance_41 rfl rfl ?_
          obtain ⟨j7, hj7, h⟩ := ao_bind h
          refine an_getR r0 9 3 (q := (RX9, TX9, 11)) dX9_advance_42 rfl hk4 (Nat.le_of_ble_eq_true rfl) rfl lf_X9_15 hj7 ?_
          refine ao_aload_n 0 dX9_advance_45 rfl rfl ?_
          refine an_getI r0 9 7 (q := (RX9, TX9, 11)) dX9_advance_46 rfl hk4 (Nat.le_of_ble_eq_true rfl) rfl lf_X9_47 ?_
          obtain ⟨hk8, h⟩ := ao_some h
          obtain ⟨hb9, h⟩ := ao_some h
          refine an_iaload j7 dX9_advance_49 hk8 hb9 ?_
          refine an_putI r0 9 8 (q := (RX9, TX9, 11)) dX9_advance_50 rfl hk4 (Nat.le_of_ble_eq_true rfl) lf_X9_32 rfl rfl rfl rfl (fun M10 hM10 => ?_)
          replace h := ao_letD h hM10
          refine ao_aload_n 0 dX9_advance_53 rfl rfl ?_
          refine ao_aload_n 0 dX9_advance_54 rfl rfl ?_
          obtain ⟨j11, hj11, h⟩ := ao_bind h
          refine an_getR r0 9 4 (q := (RX9, TX9, 11)) dX9_advance_55 rfl hk4 (Nat.le_of_ble_eq_true rfl) rfl lf_X9_19 hj11 ?_
          refine ao_aload_n 0 dX9_advance_58 rfl rfl ?_
          refine an_getI r0 9 7 (q := (RX9, TX9, 11)) dX9_advance_59 rfl hk4 (Nat.le_of_ble_eq_true rfl) rfl lf_X9_47 ?_
          obtain ⟨hk12, h⟩ := ao_some h
          obtain ⟨hb13, h⟩ := ao_some h
          refine an_iaload j11 dX9_advance_62 hk12 hb13 ?_
          refine an_putI r0 9 9 (q := (RX9, TX9, 11)) dX9_advance_63 rfl hk4 (Nat.le_of_ble_eq_true rfl) lf_X9_41 rfl rfl rfl rfl (fun M14 hM14 => ?_)
          replace h := ao_letD h hM14
          refine ao_aload_n 0 dX9_advance_66 rfl rfl ?_
          refine ao_aload_n 0 dX9_advance_67 rfl rfl ?_
          obtain ⟨j15, hj15, h⟩ := ao_bind h
          refine an_getR r0 9 5 (q := (RX9, TX9, 11)) dX9_advance_68 rfl hk4 (Nat.le_of_ble_eq_true rfl) rfl lf_X9_22 hj15 ?_
          refine ao_aload_n 0 dX9_advance_71 rfl rfl ?_
          refine an_getI r0 9 7 (q := (RX9, TX9, 11)) dX9_advance_72 rfl hk4 (Nat.le_of_ble_eq_true rfl) rfl lf_X9_47 ?_
          obtain ⟨hk16, h⟩ := ao_some h
          obtain ⟨hb17, h⟩ := ao_some h
          refine an_iaload j15 dX9_advance_75 hk16 hb17 ?_
          refine an_putI r0 9 10 (q := (RX9, TX9, 11)) dX9_advance_76 rfl hk4 (Nat.le_of_ble_eq_true rfl) lf_X9_44 rfl rfl rfl rfl (fun M18 hM18 => ?_)
          replace h := ao_letD h hM18
          cases h
          exact ao_return dX9_advance_79 rfl ⟨rfl, rfl⟩
set_option maxRecDepth 100000 in
set_option maxHeartbeats 4000000 in
theorem aX9_advance {Γ : ao_C} (d : Nat) (hd : 0 ≤ d) (n : Nat) (r0 : Nat) (M : ao_M) (ρ : ao_H) {y : ao_M} (h : gX9_advance n r0 M ρ = some y) : ao_A Γ uX9_advance d 0 0 [.ref (Γ.2.2.2 + r0)] (M, ρ) (ao_PV ρ y) := by
  refine ao_of (by decide) (ao_cat1 (Nat.le_of_ble_eq_true rfl)) (Nat.le_of_ble_eq_true rfl) ?_
  show ao_W Γ uX9_advance (ao_rm d 0 0) (ao_Q Γ (ao_PV ρ y) 0 0) 0 0 0 [some (.ref (Γ.2.2.2 + r0))] [] (M, ρ)
  exact (wX9_advance d hd n).1 r0 M y h

abbrev uX9_byteAt : ao_Mi := (yX9_byteAt, cX9_byteAt, 2, (some .int), [])
def gX9_byteAt (r0 : Nat) (x1 : Int32) (M : ao_M) (ρ : ao_H) : Option (Int32 × ao_M) :=
  if x1 < 0 then
    some ((-1 : Int32), M)
  else
    if ρ.2.1 r0 = 19 then
    if (M r0 1) ≤ x1 then
      some ((-1 : Int32), M)
    else
      (ρ.1 r0 0).bind fun j4 =>
      if ρ.2.1 j4 = 1 then
      if (nI (ρ.2.2.1 j4)) ≤ x1 then
        some ((-1 : Int32), M)
      else
        if ¬ (x1 < 0 ∨ ρ.2.2.1 j4 ≤ x1.toNatClampNeg) then
        some (((M j4 x1.toNatClampNeg) &&& (255 : Int32)), M)
        else none
      else none
    else none
set_option maxRecDepth 100000 in
set_option maxHeartbeats 4000000 in
theorem aX9_byteAt {Γ : ao_C} (d : Nat) (hd : 0 ≤ d) (r0 : Nat) (x1 : Int32) (M : ao_M) (ρ : ao_H) {y : Int32 × ao_M} (h : gX9_byteAt r0 x1 M ρ = some y) : ao_A Γ uX9_byteAt d 0 0 [.ref (Γ.2.2.2 + r0), .int x1] (M, ρ) (ao_PI ρ y) := by
  refine ao_of (by decide) (ao_cat1 (Nat.le_of_ble_eq_true rfl)) (Nat.le_of_ble_eq_true rfl) ?_
  show ao_W Γ uX9_byteAt (ao_rm d 0 0) (ao_Q Γ (ao_PI ρ y) 0 0) 0 0 0 [some (.ref (Γ.2.2.2 + r0)), some (.int x1)] [] (M, ρ)
  unfold gX9_byteAt at h
  refine ao_iload_n 1 dX9_byteAt_0 rfl rfl ?_
  refine ao_if_lt 34 dX9_byteAt_1 (by decide) (fun c1 => ?_) (fun c1 => ?_)
  · replace h := ao_ifT h c1
    refine ao_iconst (v := (-1)) dX9_byteAt_34 (by decide) ?_
    cases h
    exact ao_ireturn dX9_byteAt_35 rfl rfl ⟨rfl, rfl⟩
  · replace h := ao_ifF h c1
    refine ao_iload_n 1 dX9_byteAt_4 rfl rfl ?_
    refine ao_aload_n 0 dX9_byteAt_5 rfl rfl ?_
    obtain ⟨hk2, h⟩ := ao_some h
    refine an_getI r0 9 1 (q := (RX9, TX9, 11)) dX9_byteAt_6 rfl hk2 (Nat.le_of_ble_eq_true rfl) rfl lf_X9_25 ?_
    refine ao_icmp_ge 34 dX9_byteAt_9 (by decide) (fun c3 => ?_) (fun c3 => ?_)
    · replace h := ao_ifT h c3
      refine ao_iconst (v := (-1)) dX9_byteAt_34 (by decide) ?_
      cases h
      exact ao_ireturn dX9_byteAt_35 rfl rfl ⟨rfl, rfl⟩
    · replace h := ao_ifF h c3
      refine ao_iload_n 1 dX9_byteAt_12 rfl rfl ?_
      refine ao_aload_n 0 dX9_byteAt_13 rfl rfl ?_
      obtain ⟨j4, hj4, h⟩ := ao_bind h
      refine an_getR r0 9 0 (q := (RX9, TX9, 11)) dX9_byteAt_14 rfl hk2 (Nat.le_of_ble_eq_true rfl) rfl lf_X9_9 hj4 ?_
      obtain ⟨hk5, h⟩ := ao_some h
      refine an_alen j4 1 dX9_byteAt_17 hk5 (by decide) ?_
      refine ao_icmp_ge 34 dX9_byteAt_18 (by decide) (fun c6 => ?_) (fun c6 => ?_)
      · replace h := ao_ifT h c6
        refine ao_iconst (v := (-1)) dX9_byteAt_34 (by decide) ?_
        cases h
        exact ao_ireturn dX9_byteAt_35 rfl rfl ⟨rfl, rfl⟩
      · replace h := ao_ifF h c6
        refine ao_aload_n 0 dX9_byteAt_21 rfl rfl ?_
        refine an_getR r0 9 0 (q := (RX9, TX9, 11)) dX9_byteAt_22 rfl hk2 (Nat.le_of_ble_eq_true rfl) rfl lf_X9_9 hj4 ?_
        refine ao_iload_n 1 dX9_byteAt_25 rfl rfl ?_
        obtain ⟨hb7, h⟩ := ao_some h
        refine an_baload j4 dX9_byteAt_26 hk5 hb7 ?_
        refine ao_sipush (v := 255) dX9_byteAt_27 (by decide) ?_
        refine ao_iand dX9_byteAt_30 ?_
        refine ao_goto 35 dX9_byteAt_31 (by decide) ?_
        cases h
        exact ao_ireturn dX9_byteAt_35 rfl rfl ⟨rfl, rfl⟩

abbrev uX9_isBlank : ao_Mi := (yX9_isBlank, cX9_isBlank, 1, (some .boolean), [])
def fX9_isBlank : Nat → Nat → Int32 →  ao_M → ao_H → Option (Int32 × ao_M)
  | 0, _, _, _, _ => none
  | n + 1, pc, x0, M, ρ =>
    if pc = 0 then
      if x0 = (10 : Int32) then
        fX9_isBlank n 12 x0 M ρ
      else
        if x0 = (32 : Int32) then
          fX9_isBlank n 12 x0 M ρ
        else
          some ((0 : Int32), M)
    else if pc = 12 then
      some ((1 : Int32), M)
    else none
def gX9_isBlank (n : Nat) (x0 : Int32) (M : ao_M) (ρ : ao_H) : Option (Int32 × ao_M) := fX9_isBlank n 0 x0 M ρ
set_option maxRecDepth 100000 in
set_option maxHeartbeats 4000000 in
theorem wX9_isBlank {Γ : ao_C} {ρ : ao_H} (d : Nat) (hd : 0 ≤ d) : ∀ n : Nat, (∀ (x0 : Int32) (M : ao_M) (y : Int32 × ao_M), fX9_isBlank n 0 x0 M ρ = some y → ao_W Γ uX9_isBlank (ao_rm d 0 0) (ao_Q Γ (ao_PI ρ y) 0 0) 0 0 0 [some (.int x0)] [] (M, ρ)) ∧ (∀ (x0 : Int32) (M : ao_M) (y : Int32 × ao_M), fX9_isBlank n 12 x0 M ρ = some y → ao_W Γ uX9_isBlank (ao_rm d 0 0) (ao_Q Γ (ao_PI ρ y) 0 0) 0 0 12 [some (.int x0)] [] (M, ρ)) := by
  intro n
  induction n with
  | zero => exact ⟨fun _ _ _ h => ao_no h, fun _ _ _ h => ao_no h⟩
  | succ n ih =>
    refine ⟨?_, ?_⟩
    · intro x0 M y h
      replace h := ao_ifT h rfl
      refine ao_iload_n 0 dX9_isBlank_0 rfl rfl ?_
      refine ao_bipush (v := 10) dX9_isBlank_1 (by decide) ?_
      refine ao_icmp_eq 12 dX9_isBlank_3 (by decide) (fun c1 => ?_) (fun c1 => ?_)
      · replace h := ao_ifT h c1
        exact ih.2 x0 M _ h
      · replace h := ao_ifF h c1
        refine ao_iload_n 0 dX9_isBlank_6 rfl rfl ?_
        refine ao_bipush (v := 32) dX9_isBlank_7 (by decide) ?_
        refine ao_icmp_ne 16 dX9_isBlank_9 (by decide) (fun c2 => ?_) (fun c2 => ?_)
        · replace h := ao_ifF h c2
          refine ao_iconst (v := 0) dX9_isBlank_16 (by decide) ?_
          cases h
          exact ao_ireturn dX9_isBlank_17 rfl rfl ⟨rfl, rfl⟩
        · replace h := ao_ifT h c2
          exact ih.2 x0 M _ h
    · intro x0 M y h
      replace h := ao_ifF h (by decide)
      replace h := ao_ifT h rfl
      refine ao_iconst (v := 1) dX9_isBlank_12 (by decide) ?_
      refine ao_goto 17 dX9_isBlank_13 (by decide) ?_
      cases h
      exact ao_ireturn dX9_isBlank_17 rfl rfl ⟨rfl, rfl⟩
set_option maxRecDepth 100000 in
set_option maxHeartbeats 4000000 in
theorem aX9_isBlank {Γ : ao_C} (d : Nat) (hd : 0 ≤ d) (n : Nat) (x0 : Int32) (M : ao_M) (ρ : ao_H) {y : Int32 × ao_M} (h : gX9_isBlank n x0 M ρ = some y) : ao_A Γ uX9_isBlank d 0 0 [.int x0] (M, ρ) (ao_PI ρ y) := by
  refine ao_of (by decide) (ao_cat1 (Nat.le_of_ble_eq_true rfl)) (Nat.le_of_ble_eq_true rfl) ?_
  show ao_W Γ uX9_isBlank (ao_rm d 0 0) (ao_Q Γ (ao_PI ρ y) 0 0) 0 0 0 [some (.int x0)] [] (M, ρ)
  exact (wX9_isBlank d hd n).1 x0 M y h

abbrev uX9_isSmall : ao_Mi := (yX9_isSmall, cX9_isSmall, 1, (some .boolean), [])
def gX9_isSmall (x0 : Int32) (M : ao_M) (ρ : ao_H) : Option (Int32 × ao_M) :=
  if x0 < (97 : Int32) then
    some ((0 : Int32), M)
  else
    if (122 : Int32) < x0 then
      some ((0 : Int32), M)
    else
      some ((1 : Int32), M)
set_option maxRecDepth 100000 in
set_option maxHeartbeats 4000000 in
theorem aX9_isSmall {Γ : ao_C} (d : Nat) (hd : 0 ≤ d) (x0 : Int32) (M : ao_M) (ρ : ao_H) {y : Int32 × ao_M} (h : gX9_isSmall x0 M ρ = some y) : ao_A Γ uX9_isSmall d 0 0 [.int x0] (M, ρ) (ao_PI ρ y) := by
  refine ao_of (by decide) (ao_cat1 (Nat.le_of_ble_eq_true rfl)) (Nat.le_of_ble_eq_true rfl) ?_
  show ao_W Γ uX9_isSmall (ao_rm d 0 0) (ao_Q Γ (ao_PI ρ y) 0 0) 0 0 0 [some (.int x0)] [] (M, ρ)
  unfold gX9_isSmall at h
  refine ao_iload_n 0 dX9_isSmall_0 rfl rfl ?_
  refine ao_bipush (v := 97) dX9_isSmall_1 (by decide) ?_
  refine ao_icmp_lt 16 dX9_isSmall_3 (by decide) (fun c1 => ?_) (fun c1 => ?_)
  · replace h := ao_ifT h c1
    refine ao_iconst (v := 0) dX9_isSmall_16 (by decide) ?_
    cases h
    exact ao_ireturn dX9_isSmall_17 rfl rfl ⟨rfl, rfl⟩
  · replace h := ao_ifF h c1
    refine ao_iload_n 0 dX9_isSmall_6 rfl rfl ?_
    refine ao_bipush (v := 122) dX9_isSmall_7 (by decide) ?_
    refine ao_icmp_gt 16 dX9_isSmall_9 (by decide) (fun c2 => ?_) (fun c2 => ?_)
    · replace h := ao_ifT h c2
      refine ao_iconst (v := 0) dX9_isSmall_16 (by decide) ?_
      cases h
      exact ao_ireturn dX9_isSmall_17 rfl rfl ⟨rfl, rfl⟩
    · replace h := ao_ifF h c2
      refine ao_iconst (v := 1) dX9_isSmall_12 (by decide) ?_
      refine ao_goto 17 dX9_isSmall_13 (by decide) ?_
      cases h
      exact ao_ireturn dX9_isSmall_17 rfl rfl ⟨rfl, rfl⟩

abbrev uX9_isLetter : ao_Mi := (yX9_isLetter, cX9_isLetter, 1, (some .boolean), [])
def fX9_isLetter : Nat → Nat → Int32 →  ao_M → ao_H → Option (Int32 × ao_M)
  | 0, _, _, _, _ => none
  | n + 1, pc, x0, M, ρ =>
    if pc = 0 then
      (gX9_isSmall x0 M ρ).bind fun p1 =>
      if p1.1 = 0 then
        if x0 < (65 : Int32) then
          some ((0 : Int32), p1.2)
        else
          if (90 : Int32) < x0 then
            some ((0 : Int32), p1.2)
          else
            fX9_isLetter n 19 x0 p1.2 ρ
      else
        fX9_isLetter n 19 x0 p1.2 ρ
    else if pc = 19 then
      some ((1 : Int32), M)
    else none
def gX9_isLetter (n : Nat) (x0 : Int32) (M : ao_M) (ρ : ao_H) : Option (Int32 × ao_M) := fX9_isLetter n 0 x0 M ρ
set_option maxRecDepth 100000 in
set_option maxHeartbeats 4000000 in
theorem wX9_isLetter {Γ : ao_C} {ρ : ao_H} (d : Nat) (hd : 1 ≤ d) : ∀ n : Nat, (∀ (x0 : Int32) (M : ao_M) (y : Int32 × ao_M), fX9_isLetter n 0 x0 M ρ = some y → ao_W Γ uX9_isLetter (ao_rm d 0 0) (ao_Q Γ (ao_PI ρ y) 0 0) 0 0 0 [some (.int x0)] [] (M, ρ)) ∧ (∀ (x0 : Int32) (M : ao_M) (y : Int32 × ao_M), fX9_isLetter n 19 x0 M ρ = some y → ao_W Γ uX9_isLetter (ao_rm d 0 0) (ao_Q Γ (ao_PI ρ y) 0 0) 0 0 19 [some (.int x0)] [] (M, ρ)) := by
  intro n
  induction n with
  | zero => exact ⟨fun _ _ _ h => ao_no h, fun _ _ _ h => ao_no h⟩
  | succ n ih =>
    refine ⟨?_, ?_⟩
    · intro x0 M y h
      replace h := ao_ifT h rfl
      refine ao_iload_n 0 dX9_isLetter_0 rfl rfl ?_
      obtain ⟨p1, hp1, h⟩ := ao_bind h
      refine an_callSi [.int x0] (aX9_isSmall (d - 1) (by omega) x0 M ρ hp1) dX9_isLetter_1 lc_X9_77 lt_X9_isSmall rfl rfl (Nat.le_of_ble_eq_true rfl) (ao_hR (by omega) (by decide)) ?_
      refine ao_if_ne 19 dX9_isLetter_4 (by decide) (fun c2 => ?_) (fun c2 => ?_)
      · replace h := ao_ifF h c2
        exact ih.2 x0 p1.2 _ h
      · replace h := ao_ifT h c2
        refine ao_iload_n 0 dX9_isLetter_7 rfl rfl ?_
        refine ao_bipush (v := 65) dX9_isLetter_8 (by decide) ?_
        refine ao_icmp_lt 23 dX9_isLetter_10 (by decide) (fun c3 => ?_) (fun c3 => ?_)
        · replace h := ao_ifT h c3
          refine ao_iconst (v := 0) dX9_isLetter_23 (by decide) ?_
          cases h
          exact ao_ireturn dX9_isLetter_24 rfl rfl ⟨rfl, rfl⟩
        · replace h := ao_ifF h c3
          refine ao_iload_n 0 dX9_isLetter_13 rfl rfl ?_
          refine ao_bipush (v := 90) dX9_isLetter_14 (by decide) ?_
          refine ao_icmp_gt 23 dX9_isLetter_16 (by decide) (fun c4 => ?_) (fun c4 => ?_)
          · replace h := ao_ifT h c4
            refine ao_iconst (v := 0) dX9_isLetter_23 (by decide) ?_
            cases h
            exact ao_ireturn dX9_isLetter_24 rfl rfl ⟨rfl, rfl⟩
          · replace h := ao_ifF h c4
            exact ih.2 x0 p1.2 _ h
    · intro x0 M y h
      replace h := ao_ifF h (by decide)
      replace h := ao_ifT h rfl
      refine ao_iconst (v := 1) dX9_isLetter_19 (by decide) ?_
      refine ao_goto 24 dX9_isLetter_20 (by decide) ?_
      cases h
      exact ao_ireturn dX9_isLetter_24 rfl rfl ⟨rfl, rfl⟩
set_option maxRecDepth 100000 in
set_option maxHeartbeats 4000000 in
theorem aX9_isLetter {Γ : ao_C} (d : Nat) (hd : 1 ≤ d) (n : Nat) (x0 : Int32) (M : ao_M) (ρ : ao_H) {y : Int32 × ao_M} (h : gX9_isLetter n x0 M ρ = some y) : ao_A Γ uX9_isLetter d 0 0 [.int x0] (M, ρ) (ao_PI ρ y) := by
  refine ao_of (by decide) (ao_cat1 (Nat.le_of_ble_eq_true rfl)) (Nat.le_of_ble_eq_true rfl) ?_
  show ao_W Γ uX9_isLetter (ao_rm d 0 0) (ao_Q Γ (ao_PI ρ y) 0 0) 0 0 0 [some (.int x0)] [] (M, ρ)
  exact (wX9_isLetter d hd n).1 x0 M y h

abbrev uX9_isDigit : ao_Mi := (yX9_isDigit, cX9_isDigit, 1, (some .boolean), [])
def gX9_isDigit (x0 : Int32) (M : ao_M) (ρ : ao_H) : Option (Int32 × ao_M) :=
  if x0 < (48 : Int32) then
    some ((0 : Int32), M)
  else
    if (57 : Int32) < x0 then
      some ((0 : Int32), M)
    else
      some ((1 : Int32), M)
set_option maxRecDepth 100000 in
set_option maxHeartbeats 4000000 in
theorem aX9_isDigit {Γ : ao_C} (d : Nat) (hd : 0 ≤ d) (x0 : Int32) (M : ao_M) (ρ : ao_H) {y : Int32 × ao_M} (h : gX9_isDigit x0 M ρ = some y) : ao_A Γ uX9_isDigit d 0 0 [.int x0] (M, ρ) (ao_PI ρ y) := by
  refine ao_of (by decide) (ao_cat1 (Nat.le_of_ble_eq_true rfl)) (Nat.le_of_ble_eq_true rfl) ?_
  show ao_W Γ uX9_isDigit (ao_rm d 0 0) (ao_Q Γ (ao_PI ρ y) 0 0) 0 0 0 [some (.int x0)] [] (M, ρ)
  unfold gX9_isDigit at h
  refine ao_iload_n 0 dX9_isDigit_0 rfl rfl ?_
  refine ao_bipush (v := 48) dX9_isDigit_1 (by decide) ?_
  refine ao_icmp_lt 16 dX9_isDigit_3 (by decide) (fun c1 => ?_) (fun c1 => ?_)
  · replace h := ao_ifT h c1
    refine ao_iconst (v := 0) dX9_isDigit_16 (by decide) ?_
    cases h
    exact ao_ireturn dX9_isDigit_17 rfl rfl ⟨rfl, rfl⟩
  · replace h := ao_ifF h c1
    refine ao_iload_n 0 dX9_isDigit_6 rfl rfl ?_
    refine ao_bipush (v := 57) dX9_isDigit_7 (by decide) ?_
    refine ao_icmp_gt 16 dX9_isDigit_9 (by decide) (fun c2 => ?_) (fun c2 => ?_)
    · replace h := ao_ifT h c2
      refine ao_iconst (v := 0) dX9_isDigit_16 (by decide) ?_
      cases h
      exact ao_ireturn dX9_isDigit_17 rfl rfl ⟨rfl, rfl⟩
    · replace h := ao_ifF h c2
      refine ao_iconst (v := 1) dX9_isDigit_12 (by decide) ?_
      refine ao_goto 17 dX9_isDigit_13 (by decide) ?_
      cases h
      exact ao_ireturn dX9_isDigit_17 rfl rfl ⟨rfl, rfl⟩

abbrev uX9_isWord : ao_Mi := (yX9_isWord, cX9_isWord, 3, (some .boolean), [])
def fX9_isWord : Nat → Nat → Nat → Nat → Int32 →  ao_M → ao_H → Option (Int32 × ao_M)
  | 0, _, _, _, _, _, _ => none
  | n + 1, pc, r0, r1, x2, M, ρ =>
    if pc = 0 then
      if r1 < 13 then
      if ρ.2.1 r0 = 19 then
      if (nI (ao_len.getD r1 0)) = ((M r0 2) - (M r0 9)) then
        fX9_isWord n 20 r0 r1 (0 : Int32) M ρ
      else
        some ((0 : Int32), M)
      else none
      else none
    else if pc = 20 then
      if r1 < 13 then
      if (nI (ao_len.getD r1 0)) ≤ x2 then
        some ((1 : Int32), M)
      else
        if ¬ (x2 < 0 ∨ ao_len.getD r1 0 ≤ x2.toNatClampNeg) then
        if ρ.2.1 r0 = 19 then
        (gX9_byteAt r0 ((M r0 9) + x2) M ρ).bind fun p8 =>
        if (ao_chr r1 x2) = p8.1 then
          ao_let (x2 + (1 : Int32)) fun v10 =>
          fX9_isWord n 20 r0 r1 v10 p8.2 ρ
        else
          some ((0 : Int32), p8.2)
        else none
        else none
      else none
    else none
def gX9_isWord (n : Nat) (r0 : Nat) (r1 : Nat) (M : ao_M) (ρ : ao_H) : Option (Int32 × ao_M) := fX9_isWord n 0 r0 r1 0 M ρ
set_option maxRecDepth 100000 in
set_option maxHeartbeats 4000000 in
theorem wX9_isWord {Γ : ao_C} {ρ : ao_H} (d : Nat) (hd : 4 ≤ d) : ∀ n : Nat, (∀ (r0 : Nat) (r1 : Nat) (M : ao_M) (y : Int32 × ao_M), fX9_isWord n 0 r0 r1 0 M ρ = some y → ao_W Γ uX9_isWord (ao_rm d 0 0) (ao_Q Γ (ao_PI ρ y) 0 0) 0 0 0 [some (.ref (Γ.2.2.2 + r0)), some (.ref (ao_tK Γ r1)), none] [] (M, ρ)) ∧ (∀ (r0 : Nat) (r1 : Nat) (x2 : Int32) (M : ao_M) (y : Int32 × ao_M), fX9_isWord n 20 r0 r1 x2 M ρ = some y → ao_W Γ uX9_isWord (ao_rm d 0 0) (ao_Q Γ (ao_PI ρ y) 0 0) 0 0 20 [some (.ref (Γ.2.2.2 + r0)), some (.ref (ao_tK Γ r1)), some (.int x2)] [] (M, ρ)) := by
  intro n
  induction n with
  | zero => exact ⟨fun _ _ _ _ h => ao_no h, fun _ _ _ _ _ h => ao_no h⟩
  | succ n ih =>
    refine ⟨?_, ?_⟩
    · intro r0 r1 M y h
      replace h := ao_ifT h rfl
      refine ao_aload_n 1 dX9_isWord_0 rfl rfl ?_
      obtain ⟨ht1, h⟩ := ao_some h
      refine at_len r1 ht1 (d := d - 1) dX9_isWord_1 lc_X9_111 (Nat.le_of_ble_eq_true rfl) (by omega) (ao_hR (by omega) (by decide)) ?_
      refine ao_aload_n 0 dX9_isWord_4 rfl rfl ?_
      obtain ⟨hk2, h⟩ := ao_some h
      refine an_getI r0 9 2 (q := (RX9, TX9, 11)) dX9_isWord_5 rfl hk2 (Nat.le_of_ble_eq_true rfl) rfl lf_X9_29 ?_
      refine ao_aload_n 0 dX9_isWord_8 rfl rfl ?_
      refine an_getI r0 9 9 (q := (RX9, TX9, 11)) dX9_isWord_9 rfl hk2 (Nat.le_of_ble_eq_true rfl) rfl lf_X9_41 ?_
      refine ao_isub dX9_isWord_12 ?_
      refine ao_icmp_eq 18 dX9_isWord_13 (by decide) (fun c3 => ?_) (fun c3 => ?_)
      · replace h := ao_ifT h c3
        refine ao_iconst (v := 0) dX9_isWord_18 (by decide) ?_
        refine ao_istore_n 2 (lo' := [some (.ref (Γ.2.2.2 + r0)), some (.ref (ao_tK Γ r1)), some (.int (0 : Int32))]) dX9_isWord_19 rfl (Nat.le_of_ble_eq_true rfl) rfl ?_
        exact ih.2 r0 r1 (0 : Int32) M _ h
      · replace h := ao_ifF h c3
        refine ao_iconst (v := 0) dX9_isWord_16 (by decide) ?_
        cases h
        exact ao_ireturn dX9_isWord_17 rfl rfl ⟨rfl, rfl⟩
    · intro r0 r1 x2 M y h
      replace h := ao_ifF h (by decide)
      replace h := ao_ifT h rfl
      refine ao_iload_n 2 dX9_isWord_20 rfl rfl ?_
      refine ao_aload_n 1 dX9_isWord_21 rfl rfl ?_
      obtain ⟨ht4, h⟩ := ao_some h
      refine at_len r1 ht4 (d := d - 1) dX9_isWord_22 lc_X9_111 (Nat.le_of_ble_eq_true rfl) (by omega) (ao_hR (by omega) (by decide)) ?_
      refine ao_icmp_ge 54 dX9_isWord_25 (by decide) (fun c5 => ?_) (fun c5 => ?_)
      · replace h := ao_ifT h c5
        refine ao_iconst (v := 1) dX9_isWord_54 (by decide) ?_
        cases h
        exact ao_ireturn dX9_isWord_55 rfl rfl ⟨rfl, rfl⟩
      · replace h := ao_ifF h c5
        refine ao_aload_n 1 dX9_isWord_28 rfl rfl ?_
        refine ao_iload_n 2 dX9_isWord_29 rfl rfl ?_
        obtain ⟨hb6, h⟩ := ao_some h
        refine at_charAt r1 ht4 (d := d - 1) hb6 dX9_isWord_30 lc_X9_115 (Nat.le_of_ble_eq_true rfl) (by omega) (ao_hR (by omega) (by decide)) ?_
        refine ao_aload_n 0 dX9_isWord_33 rfl rfl ?_
        refine ao_aload_n 0 dX9_isWord_34 rfl rfl ?_
        obtain ⟨hk7, h⟩ := ao_some h
        refine an_getI r0 9 9 (q := (RX9, TX9, 11)) dX9_isWord_35 rfl hk7 (Nat.le_of_ble_eq_true rfl) rfl lf_X9_41 ?_
        refine ao_iload_n 2 dX9_isWord_38 rfl rfl ?_
        refine ao_iadd dX9_isWord_39 ?_
        obtain ⟨p8, hp8, h⟩ := ao_bind h
        refine an_callVi r0 9 (q := (RX9, TX9, 11)) [.int ((M r0 9) + x2)] (aX9_byteAt (d - 1) (by omega) r0 ((M r0 9) + x2) M ρ hp8) dX9_isWord_40 lc_X9_53 li_X9_byteAt ls_X9_byteAt rfl hk7 rfl rfl (Nat.le_of_ble_eq_true rfl) (ao_hR (by omega) (by decide)) ?_
        refine ao_icmp_eq 48 dX9_isWord_43 (by decide) (fun c9 => ?_) (fun c9 => ?_)
        · replace h := ao_ifT h c9
          obtain ⟨v10, hv10⟩ : ∃ z : Int32, z = x2 + (1 : Int32) := ⟨_, rfl⟩
          replace h := ao_letD h hv10
          refine ao_iinc 2 (v := v10) (lo' := [some (.ref (Γ.2.2.2 + r0)), some (.ref (ao_tK Γ r1)), some (.int v10)]) dX9_isWord_48 rfl (by rw [hv10]; rfl) (Nat.le_of_ble_eq_true rfl) rfl ?_
          refine ao_goto 20 dX9_isWord_51 (by decide) ?_
          exact ih.2 r0 r1 v10 p8.2 _ h
        · replace h := ao_ifF h c9
          refine ao_iconst (v := 0) dX9_isWord_46 (by decide) ?_
          cases h
          exact ao_ireturn dX9_isWord_47 rfl rfl ⟨rfl, rfl⟩
set_option maxRecDepth 100000 in
set_option maxHeartbeats 4000000 in
theorem aX9_isWord {Γ : ao_C} (d : Nat) (hd : 4 ≤ d) (n : Nat) (r0 : Nat) (r1 : Nat) (M : ao_M) (ρ : ao_H) {y : Int32 × ao_M} (h : gX9_isWord n r0 r1 M ρ = some y) : ao_A Γ uX9_isWord d 0 0 [.ref (Γ.2.2.2 + r0), .ref (ao_tK Γ r1)] (M, ρ) (ao_PI ρ y) := by
  refine ao_of (by decide) (ao_cat1 (Nat.le_of_ble_eq_true rfl)) (Nat.le_of_ble_eq_true rfl) ?_
  show ao_W Γ uX9_isWord (ao_rm d 0 0) (ao_Q Γ (ao_PI ρ y) 0 0) 0 0 0 [some (.ref (Γ.2.2.2 + r0)), some (.ref (ao_tK Γ r1)), none] [] (M, ρ)
  exact (wX9_isWord d hd n).1 r0 r1 M y h

abbrev uX9_numberKind : ao_Mi := (yX9_numberKind, cX9_numberKind, 1, (some .int), [])
def fX9_numberKind : Nat → Nat → Nat →  ao_M → ao_H → Option (Int32 × ao_M)
  | 0, _, _, _, _ => none
  | n + 1, pc, r0, M, ρ =>
    if pc = 0 then
      if ρ.2.1 r0 = 19 then
      if (M r0 1) ≤ (M r0 2) then
        fX9_numberKind n 70 r0 M ρ
      else
        (gX9_byteAt r0 (M r0 2) M ρ).bind fun p3 =>
        (gX9_isDigit p3.1 p3.2 ρ).bind fun p4 =>
        if p4.1 = 0 then
          fX9_numberKind n 70 r0 p4.2 ρ
        else
          if (1000000 : Int32) < (p4.2 r0 10) then
            fX9_numberKind n 57 r0 p4.2 ρ
          else
            (gX9_byteAt r0 (p4.2 r0 2) p4.2 ρ).bind fun p7 =>
            ao_let (ao_u p7.2 r0 10 ((((p4.2 r0 10) * (10 : Int32)) + p7.1) - (48 : Int32))) fun M8 =>
            fX9_numberKind n 57 r0 M8 ρ
      else none
    else if pc = 57 then
      if ρ.2.1 r0 = 19 then
      ao_let (ao_u M r0 2 ((M r0 2) + (1 : Int32))) fun M10 =>
      fX9_numberKind n 0 r0 M10 ρ
      else none
    else if pc = 70 then
      if ρ.2.1 r0 = 19 then
      if (1000000 : Int32) < (M r0 10) then
        some ((1 : Int32), M)
      else
        some ((4 : Int32), M)
      else none
    else none
def gX9_numberKind (n : Nat) (r0 : Nat) (M : ao_M) (ρ : ao_H) : Option (Int32 × ao_M) := fX9_numberKind n 0 r0 M ρ
set_option maxRecDepth 100000 in
set_option maxHeartbeats 4000000 in
theorem wX9_numberKind {Γ : ao_C} {ρ : ao_H} (d : Nat) (hd : 1 ≤ d) : ∀ n : Nat, (∀ (r0 : Nat) (M : ao_M) (y : Int32 × ao_M), fX9_numberKind n 0 r0 M ρ = some y → ao_W Γ uX9_numberKind (ao_rm d 0 0) (ao_Q Γ (ao_PI ρ y) 0 0) 0 0 0 [some (.ref (Γ.2.2.2 + r0))] [] (M, ρ)) ∧ (∀ (r0 : Nat) (M : ao_M) (y : Int32 × ao_M), fX9_numberKind n 57 r0 M ρ = some y → ao_W Γ uX9_numberKind (ao_rm d 0 0) (ao_Q Γ (ao_PI ρ y) 0 0) 0 0 57 [some (.ref (Γ.2.2.2 + r0))] [] (M, ρ)) ∧ (∀ (r0 : Nat) (M : ao_M) (y : Int32 × ao_M), fX9_numberKind n 70 r0 M ρ = some y → ao_W Γ uX9_numberKind (ao_rm d 0 0) (ao_Q Γ (ao_PI ρ y) 0 0) 0 0 70 [some (.ref (Γ.2.2.2 + r0))] [] (M, ρ)) := by
  intro n
  induction n with
  | zero => exact ⟨fun _ _ _ h => ao_no h, fun _ _ _ h => ao_no h, fun _ _ _ h => ao_no h⟩
  | succ n ih =>
    refine ⟨?_, ?_, ?_⟩
    · intro r0 M y h
      replace h := ao_ifT h rfl
      refine ao_aload_n 0 dX9_numberKind_0 rfl rfl ?_
      obtain ⟨hk1, h⟩ := ao_some h
      refine an_getI r0 9 2 (q := (RX9, TX9, 11)) dX9_numberKind_1 rfl hk1 (Nat.le_of_ble_eq_true rfl) rfl lf_X9_29 ?_
      refine ao_aload_n 0 dX9_numberKind_4 rfl rfl ?_
      refine an_getI r0 9 1 (q := (RX9, TX9, 11)) dX9_numberKind_5 rfl hk1 (Nat.le_of_ble_eq_true rfl) rfl lf_X9_25 ?_
      refine ao_icmp_ge 70 dX9_numberKind_8 (by decide) (fun c2 => ?_) (fun c2 => ?_)
      · replace h := ao_ifT h c2
        exact ih.2.2 r0 M _ h
      · replace h := ao_ifF h c2
        refine ao_aload_n 0 dX9_numberKind_11 rfl rfl ?_
        refine ao_aload_n 0 dX9_numberKind_12 rfl rfl ?_
        refine an_getI r0 9 2 (q := (RX9, TX9, 11)) dX9_numberKind_13 rfl hk1 (Nat.le_of_ble_eq_true rfl) rfl lf_X9_29 ?_
        obtain ⟨p3, hp3, h⟩ := ao_bind h
        refine an_callVi r0 9 (q := (RX9, TX9, 11)) [.int (M r0 2)] (aX9_byteAt (d - 1) (by omega) r0 (M r0 2) M ρ hp3) dX9_numberKind_16 lc_X9_53 li_X9_byteAt ls_X9_byteAt rfl hk1 rfl rfl (Nat.le_of_ble_eq_true rfl) (ao_hR (by omega) (by decide)) ?_
        obtain ⟨p4, hp4, h⟩ := ao_bind h
        refine an_callSi [.int p3.1] (aX9_isDigit (d - 1) (by omega) p3.1 p3.2 ρ hp4) dX9_numberKind_19 lc_X9_68 lt_X9_isDigit rfl rfl (Nat.le_of_ble_eq_true rfl) (ao_hR (by omega) (by decide)) ?_
        refine ao_if_eq 70 dX9_numberKind_22 (by decide) (fun c5 => ?_) (fun c5 => ?_)
        · replace h := ao_ifT h c5
          exact ih.2.2 r0 p4.2 _ h
        · replace h := ao_ifF h c5
          refine ao_aload_n 0 dX9_numberKind_25 rfl rfl ?_
          refine an_getI r0 9 10 (q := (RX9, TX9, 11)) dX9_numberKind_26 rfl hk1 (Nat.le_of_ble_eq_true rfl) rfl lf_X9_44 ?_
          refine ao_ldc (v := 1000000) dX9_numberKind_29 lk_X9_119 ?_
          refine ao_icmp_gt 57 dX9_numberKind_31 (by decide) (fun c6 => ?_) (fun c6 => ?_)
          · replace h := ao_ifT h c6
            exact ih.2.1 r0 p4.2 _ h
          · replace h := ao_ifF h c6
            refine ao_aload_n 0 dX9_numberKind_34 rfl rfl ?_
            refine ao_aload_n 0 dX9_numberKind_35 rfl rfl ?_
            refine an_getI r0 9 10 (q := (RX9, TX9, 11)) dX9_numberKind_36 rfl hk1 (Nat.le_of_ble_eq_true rfl) rfl lf_X9_44 ?_
            refine ao_bipush (v := 10) dX9_numberKind_39 (by decide) ?_
            refine ao_imul dX9_numberKind_41 ?_
            refine ao_aload_n 0 dX9_numberKind_42 rfl rfl ?_
            refine ao_aload_n 0 dX9_numberKind_43 rfl rfl ?_
            refine an_getI r0 9 2 (q := (RX9, TX9, 11)) dX9_numberKind_44 rfl hk1 (Nat.le_of_ble_eq_true rfl) rfl lf_X9_29 ?_
            obtain ⟨p7, hp7, h⟩ := ao_bind h
            refine an_callVi r0 9 (q := (RX9, TX9, 11)) [.int (p4.2 r0 2)] (aX9_byteAt (d - 1) (by omega) r0 (p4.2 r0 2) p4.2 ρ hp7) dX9_numberKind_47 lc_X9_53 li_X9_byteAt ls_X9_byteAt rfl hk1 rfl rfl (Nat.le_of_ble_eq_true rfl) (ao_hR (by omega) (by decide)) ?_
            refine ao_iadd dX9_numberKind_50 ?_
            refine ao_bipush (v := 48) dX9_numberKind_51 (by decide) ?_
            refine ao_isub dX9_numberKind_53 ?_
            refine an_putI r0 9 10 (q := (RX9, TX9, 11)) dX9_numberKind_54 rfl hk1 (Nat.le_of_ble_eq_true rfl) lf_X9_44 rfl rfl rfl rfl (fun M8 hM8 => ?_)
            replace h := ao_letD h hM8
            exact ih.2.1 r0 M8 _ h
    · intro r0 M y h
      replace h := ao_ifF h (by decide)
      replace h := ao_ifT h rfl
      refine ao_aload_n 0 dX9_numberKind_57 rfl rfl ?_
      refine ao_dup dX9_numberKind_58 rfl ?_
      obtain ⟨hk9, h⟩ := ao_some h
      refine an_getI r0 9 2 (q := (RX9, TX9, 11)) dX9_numberKind_59 rfl hk9 (Nat.le_of_ble_eq_true rfl) rfl lf_X9_29 ?_
      refine ao_iconst (v := 1) dX9_numberKind_62 (by decide) ?_
      refine ao_iadd dX9_numberKind_63 ?_
      refine an_putI r0 9 2 (q := (RX9, TX9, 11)) dX9_numberKind_64 rfl hk9 (Nat.le_of_ble_eq_true rfl) lf_X9_29 rfl rfl rfl rfl (fun M10 hM10 => ?_)
      replace h := ao_letD h hM10
      refine ao_goto 0 dX9_numberKind_67 (by decide) ?_
      exact ih.1 r0 M10 _ h
    · intro r0 M y h
      replace h := ao_ifF h (by decide)
      replace h := ao_ifF h (by decide)
      replace h := ao_ifT h rfl
      refine ao_aload_n 0 dX9_numberKind_70 rfl rfl ?_
      obtain ⟨hk11, h⟩ := ao_some h
      refine an_getI r0 9 10 (q := (RX9, TX9, 11)) dX9_numberKind_71 rfl hk11 (Nat.le_of_ble_eq_true rfl) rfl lf_X9_44 ?_
      refine ao_ldc (v := 1000000) dX9_numberKind_74 lk_X9_119 ?_
      refine ao_icmp_gt 83 dX9_numberKind_76 (by decide) (fun c12 => ?_) (fun c12 => ?_)
      · replace h := ao_ifT h c12
        refine ao_iconst (v := 1) dX9_numberKind_83 (by decide) ?_
        cases h
        exact ao_ireturn dX9_numberKind_84 rfl rfl ⟨rfl, rfl⟩
      · replace h := ao_ifF h c12
        refine ao_iconst (v := 4) dX9_numberKind_79 (by decide) ?_
        refine ao_goto 84 dX9_numberKind_80 (by decide) ?_
        cases h
        exact ao_ireturn dX9_numberKind_84 rfl rfl ⟨rfl, rfl⟩
set_option maxRecDepth 100000 in
set_option maxHeartbeats 4000000 in
theorem aX9_numberKind {Γ : ao_C} (d : Nat) (hd : 1 ≤ d) (n : Nat) (r0 : Nat) (M : ao_M) (ρ : ao_H) {y : Int32 × ao_M} (h : gX9_numberKind n r0 M ρ = some y) : ao_A Γ uX9_numberKind d 0 0 [.ref (Γ.2.2.2 + r0)] (M, ρ) (ao_PI ρ y) := by
  refine ao_of (by decide) (ao_cat1 (Nat.le_of_ble_eq_true rfl)) (Nat.le_of_ble_eq_true rfl) ?_
  show ao_W Γ uX9_numberKind (ao_rm d 0 0) (ao_Q Γ (ao_PI ρ y) 0 0) 0 0 0 [some (.ref (Γ.2.2.2 + r0))] [] (M, ρ)
  exact (wX9_numberKind d hd n).1 r0 M y h

abbrev uX9_equalsKind : ao_Mi := (yX9_equalsKind, cX9_equalsKind, 1, (some .int), [])
def gX9_equalsKind (r0 : Nat) (M : ao_M) (ρ : ao_H) : Option (Int32 × ao_M) :=
  if ρ.2.1 r0 = 19 then
  (gX9_byteAt r0 (M r0 2) M ρ).bind fun p2 =>
  if p2.1 = (61 : Int32) then
    ao_let (ao_u p2.2 r0 2 ((p2.2 r0 2) + (1 : Int32))) fun M4 =>
    some ((23 : Int32), M4)
  else
    some ((22 : Int32), p2.2)
  else none
set_option maxRecDepth 100000 in
set_option maxHeartbeats 4000000 in
theorem aX9_equalsKind {Γ : ao_C} (d : Nat) (hd : 1 ≤ d) (r0 : Nat) (M : ao_M) (ρ : ao_H) {y : Int32 × ao_M} (h : gX9_equalsKind r0 M ρ = some y) : ao_A Γ uX9_equalsKind d 0 0 [.ref (Γ.2.2.2 + r0)] (M, ρ) (ao_PI ρ y) := by
  refine ao_of (by decide) (ao_cat1 (Nat.le_of_ble_eq_true rfl)) (Nat.le_of_ble_eq_true rfl) ?_
  show ao_W Γ uX9_equalsKind (ao_rm d 0 0) (ao_Q Γ (ao_PI ρ y) 0 0) 0 0 0 [some (.ref (Γ.2.2.2 + r0))] [] (M, ρ)
  unfold gX9_equalsKind at h
  refine ao_aload_n 0 dX9_equalsKind_0 rfl rfl ?_
  refine ao_aload_n 0 dX9_equalsKind_1 rfl rfl ?_
  obtain ⟨hk1, h⟩ := ao_some h
  refine an_getI r0 9 2 (q := (RX9, TX9, 11)) dX9_equalsKind_2 rfl hk1 (Nat.le_of_ble_eq_true rfl) rfl lf_X9_29 ?_
  obtain ⟨p2, hp2, h⟩ := ao_bind h
  refine an_callVi r0 9 (q := (RX9, TX9, 11)) [.int (M r0 2)] (aX9_byteAt (d - 1) (by omega) r0 (M r0 2) M ρ hp2) dX9_equalsKind_5 lc_X9_53 li_X9_byteAt ls_X9_byteAt rfl hk1 rfl rfl (Nat.le_of_ble_eq_true rfl) (ao_hR (by omega) (by decide)) ?_
  refine ao_bipush (v := 61) dX9_equalsKind_8 (by decide) ?_
  refine ao_icmp_eq 16 dX9_equalsKind_10 (by decide) (fun c3 => ?_) (fun c3 => ?_)
  · replace h := ao_ifT h c3
    refine ao_aload_n 0 dX9_equalsKind_16 rfl rfl ?_
    refine ao_dup dX9_equalsKind_17 rfl ?_
    refine an_getI r0 9 2 (q := (RX9, TX9, 11)) dX9_equalsKind_18 rfl hk1 (Nat.le_of_ble_eq_true rfl) rfl lf_X9_29 ?_
    refine ao_iconst (v := 1) dX9_equalsKind_21 (by decide) ?_
    refine ao_iadd dX9_equalsKind_22 ?_
    refine an_putI r0 9 2 (q := (RX9, TX9, 11)) dX9_equalsKind_23 rfl hk1 (Nat.le_of_ble_eq_true rfl) lf_X9_29 rfl rfl rfl rfl (fun M4 hM4 => ?_)
    replace h := ao_letD h hM4
    refine ao_bipush (v := 23) dX9_equalsKind_26 (by decide) ?_
    cases h
    exact ao_ireturn dX9_equalsKind_28 rfl rfl ⟨rfl, rfl⟩
  · replace h := ao_ifF h c3
    refine ao_bipush (v := 22) dX9_equalsKind_13 (by decide) ?_
    cases h
    exact ao_ireturn dX9_equalsKind_15 rfl rfl ⟨rfl, rfl⟩

abbrev uX10_end : ao_Mi := (yX10_end, cX10_end, 2, (some .int), [])
def fX10_end : Nat → Nat → Nat → Int32 →  ao_M → ao_H → Option ((Int32 ⊕ String) × ao_S)
  | 0, _, _, _, _, _ => none
  | n + 1, pc, r0, x1, M, ρ =>
    if pc = 0 then
      if x1 < 0 then
        fX10_end n 12 r0 x1 M ρ
      else
        if ρ.2.1 r0 = 20 then
        if x1 ≤ (M r0 4) then
          ao_let (ao_u M r0 4 x1) fun M4 =>
          some (.inl x1, M4, ρ)
        else
          fX10_end n 12 r0 x1 M ρ
        else none
    else if pc = 12 then
      some (.inr "java/lang/IllegalArgumentException", M, ao_th ρ)
    else none
def gX10_end (n : Nat) (r0 : Nat) (x1 : Int32) (M : ao_M) (ρ : ao_H) : Option ((Int32 ⊕ String) × ao_S) := fX10_end n 0 r0 x1 M ρ
set_option maxRecDepth 100000 in
set_option maxHeartbeats 4000000 in
theorem mX10_end : ∀ n : Nat, (∀ (r0 : Nat) (x1 : Int32) (M : ao_M) (ρ : ao_H) (y : (Int32 ⊕ String) × ao_S), fX10_end n 0 r0 x1 M ρ = some y → ao_le ρ y.2.2) ∧ (∀ (r0 : Nat) (x1 : Int32) (M : ao_M) (ρ : ao_H) (y : (Int32 ⊕ String) × ao_S), fX10_end n 12 r0 x1 M ρ = some y → ao_le ρ y.2.2) := by
  intro n
  induction n with
  | zero => exact ⟨fun _ _ _ _ _ h => ao_no h, fun _ _ _ _ _ h => ao_no h⟩
  | succ n ih =>
    refine ⟨?_, ?_⟩
    · intro r0 x1 M ρ y h
      replace h := ao_ifT h rfl
      rcases ao_ifC h with h | h
      · exact ih.2 r0 x1 M ρ _ h
      · obtain ⟨-, h⟩ := ao_some h
        rcases ao_ifC h with h | h
        · replace h := ao_letD h rfl
          generalize (ao_u M r0 4 x1) = M4 at h
          cases h
          exact ao_le_rf _
        · exact ih.2 r0 x1 M ρ _ h
    · intro r0 x1 M ρ y h
      replace h := ao_ifF h (by decide)
      replace h := ao_ifT h rfl
      cases h
      exact ao_le_th _
set_option maxRecDepth 100000 in
set_option maxHeartbeats 4000000 in
theorem wX10_end {Γ : ao_C} (d : Nat) (hd : 8 ≤ d) (MC MS : Nat) : ∀ n : Nat, (∀ (r0 : Nat) (x1 : Int32) (M : ao_M) (ρ : ao_H) (y : (Int32 ⊕ String) × ao_S), fX10_end n 0 r0 x1 M ρ = some y → ao_W Γ uX10_end (ao_rm d MC MS) (ao_Q Γ (ao_ZI y) MC MS) (ao_dc ρ y.2.2) (ao_ds ρ y.2.2) 0 [some (.ref (Γ.2.2.2 + r0)), some (.int x1)] [] (M, ρ)) ∧ (∀ (r0 : Nat) (x1 : Int32) (M : ao_M) (ρ : ao_H) (y : (Int32 ⊕ String) × ao_S), fX10_end n 12 r0 x1 M ρ = some y → ao_W Γ uX10_end (ao_rm d MC MS) (ao_Q Γ (ao_ZI y) MC MS) (ao_dc ρ y.2.2) (ao_ds ρ y.2.2) 12 [some (.ref (Γ.2.2.2 + r0)), some (.int x1)] [] (M, ρ)) := by
  intro n
  induction n with
  | zero => exact ⟨fun _ _ _ _ _ h => ao_no h, fun _ _ _ _ _ h => ao_no h⟩
  | succ n ih =>
    refine ⟨?_, ?_⟩
    · intro r0 x1 M ρ y h
      replace h := ao_ifT h rfl
      refine ao_iload_n 1 dX10_end_0 rfl rfl ?_
      refine ao_if_lt 12 dX10_end_1 (by decide) (fun c1 => ?_) (fun c1 => ?_)
      · replace h := ao_ifT h c1
        exact ih.2 r0 x1 M ρ _ h
      · replace h := ao_ifF h c1
        refine ao_iload_n 1 dX10_end_4 rfl rfl ?_
        refine ao_aload_n 0 dX10_end_5 rfl rfl ?_
        obtain ⟨hk2, h⟩ := ao_some h
        refine an_getI r0 10 4 (q := (RX10, TX10, 6)) dX10_end_6 rfl hk2 (Nat.le_of_ble_eq_true rfl) rfl lf_X10_34 ?_
        refine ao_icmp_le 22 dX10_end_9 (by decide) (fun c3 => ?_) (fun c3 => ?_)
        · replace h := ao_ifT h c3
          refine ao_aload_n 0 dX10_end_22 rfl rfl ?_
          refine ao_iload_n 1 dX10_end_23 rfl rfl ?_
          refine an_putI r0 10 4 (q := (RX10, TX10, 6)) dX10_end_24 rfl hk2 (Nat.le_of_ble_eq_true rfl) lf_X10_34 rfl rfl rfl rfl (fun M4 hM4 => ?_)
          replace h := ao_letD h hM4
          refine ao_iload_n 1 dX10_end_27 rfl rfl ?_
          cases h
          exact ao_ireturn dX10_end_28 rfl rfl ⟨rfl, rfl⟩
        · replace h := ao_ifF h c3
          exact ih.2 r0 x1 M ρ _ h
    · intro r0 x1 M ρ y h
      replace h := ao_ifF h (by decide)
      replace h := ao_ifT h rfl
      cases h
      exact cx_throwS "java/lang/IllegalArgumentException" "not a length of the tape" ["java/lang/RuntimeException", "java/lang/Exception"] lth_X10_54 rfl dX10_end_12 dX10_end_15 dX10_end_16 dX10_end_18 dX10_end_21 (by omega) (Nat.le_of_ble_eq_true rfl) ao_thM ⟨rfl, rfl⟩
theorem me_X10_end (n : Nat) (r0 : Nat) (x1 : Int32) (M : ao_M) (ρ : ao_H) {y : (Int32 ⊕ String) × ao_S} (h : gX10_end n r0 x1 M ρ = some y) : ao_le ρ y.2.2 := (mX10_end n).1 r0 x1 M ρ y h
set_option maxRecDepth 100000 in
set_option maxHeartbeats 4000000 in
theorem aX10_end {Γ : ao_C} (d : Nat) (hd : 8 ≤ d) (n : Nat) (r0 : Nat) (x1 : Int32) (M : ao_M) (ρ : ao_H) {y : (Int32 ⊕ String) × ao_S} (h : gX10_end n r0 x1 M ρ = some y) : ao_A Γ uX10_end d (ao_dc ρ y.2.2) (ao_ds ρ y.2.2) [.ref (Γ.2.2.2 + r0), .int x1] (M, ρ) (ao_ZI y) := by
  refine ao_of (by decide) (ao_cat1 (Nat.le_of_ble_eq_true rfl)) (Nat.le_of_ble_eq_true rfl) ?_
  show ao_W Γ uX10_end (ao_rm d (ao_dc ρ y.2.2) (ao_ds ρ y.2.2)) (ao_Q Γ (ao_ZI y) (ao_dc ρ y.2.2) (ao_ds ρ y.2.2)) (ao_dc ρ y.2.2) (ao_ds ρ y.2.2) 0 [some (.ref (Γ.2.2.2 + r0)), some (.int x1)] [] (M, ρ)
  exact (wX10_end d hd _ _ n).1 r0 x1 M ρ y h

abbrev uX10_place : ao_Mi := (yX10_place, cX10_place, 1, (some .int), [])
def gX10_place (r0 : Nat) (M : ao_M) (ρ : ao_H) : Option (Int32 × ao_M) :=
  if ρ.2.1 r0 = 20 then
  some ((M r0 5), M)
  else none
set_option maxRecDepth 100000 in
set_option maxHeartbeats 4000000 in
theorem aX10_place {Γ : ao_C} (d : Nat) (hd : 0 ≤ d) (r0 : Nat) (M : ao_M) (ρ : ao_H) {y : Int32 × ao_M} (h : gX10_place r0 M ρ = some y) : ao_A Γ uX10_place d 0 0 [.ref (Γ.2.2.2 + r0)] (M, ρ) (ao_PI ρ y) := by
  refine ao_of (by decide) (ao_cat1 (Nat.le_of_ble_eq_true rfl)) (Nat.le_of_ble_eq_true rfl) ?_
  show ao_W Γ uX10_place (ao_rm d 0 0) (ao_Q Γ (ao_PI ρ y) 0 0) 0 0 0 [some (.ref (Γ.2.2.2 + r0))] [] (M, ρ)
  unfold gX10_place at h
  refine ao_aload_n 0 dX10_place_0 rfl rfl ?_
  obtain ⟨hk1, h⟩ := ao_some h
  refine an_getI r0 10 5 (q := (RX10, TX10, 6)) dX10_place_1 rfl hk1 (Nat.le_of_ble_eq_true rfl) rfl lf_X10_38 ?_
  cases h
  exact ao_ireturn dX10_place_4 rfl rfl ⟨rfl, rfl⟩

abbrev uX10_has : ao_Mi := (yX10_has, cX10_has, 2, (some .int), [])
def fX10_has : Nat → Nat → Nat → Int32 →  ao_M → ao_H → Option ((Int32 ⊕ String) × ao_S)
  | 0, _, _, _, _, _ => none
  | n + 1, pc, r0, x1, M, ρ =>
    if pc = 0 then
      if x1 < 0 then
        fX10_has n 10 r0 x1 M ρ
      else
        if x1 < (26 : Int32) then
          if ρ.2.1 r0 = 20 then
          (ρ.1 r0 2).bind fun j4 =>
          if ρ.2.1 j4 = 12 then
          (ρ.1 j4 0).bind fun j6 =>
          if ρ.2.1 j6 = 15 then
          (ρ.1 j6 0).bind fun j8 =>
          if ρ.2.1 j8 = 0 then
          if ¬ (x1 < 0 ∨ ρ.2.2.1 j8 ≤ x1.toNatClampNeg) then
          some (.inl (M j8 x1.toNatClampNeg), M, ρ)
          else none
          else none
          else none
          else none
          else none
        else
          fX10_has n 10 r0 x1 M ρ
    else if pc = 10 then
      some (.inr "java/lang/IllegalArgumentException", M, ao_th ρ)
    else none
def gX10_has (n : Nat) (r0 : Nat) (x1 : Int32) (M : ao_M) (ρ : ao_H) : Option ((Int32 ⊕ String) × ao_S) := fX10_has n 0 r0 x1 M ρ
set_option maxRecDepth 100000 in
set_option maxHeartbeats 4000000 in
theorem mX10_has : ∀ n : Nat, (∀ (r0 : Nat) (x1 : Int32) (M : ao_M) (ρ : ao_H) (y : (Int32 ⊕ String) × ao_S), fX10_has n 0 r0 x1 M ρ = some y → ao_le ρ y.2.2) ∧ (∀ (r0 : Nat) (x1 : Int32) (M : ao_M) (ρ : ao_H) (y : (Int32 ⊕ String) × ao_S), fX10_has n 10 r0 x1 M ρ = some y → ao_le ρ y.2.2) := by
  intro n
  induction n with
  | zero => exact ⟨fun _ _ _ _ _ h => ao_no h, fun _ _ _ _ _ h => ao_no h⟩
  | succ n ih =>
    refine ⟨?_, ?_⟩
    · intro r0 x1 M ρ y h
      replace h := ao_ifT h rfl
      rcases ao_ifC h with h | h
      · exact ih.2 r0 x1 M ρ _ h
      · rcases ao_ifC h with h | h
        · obtain ⟨-, h⟩ := ao_some h
          obtain ⟨j4, hj4, h⟩ := ao_bind h
          obtain ⟨-, h⟩ := ao_some h
          obtain ⟨j6, hj6, h⟩ := ao_bind h
          obtain ⟨-, h⟩ := ao_some h
          obtain ⟨j8, hj8, h⟩ := ao_bind h
          obtain ⟨-, h⟩ := ao_some h
          obtain ⟨-, h⟩ := ao_some h
          cases h
          exact ao_le_rf _
        · exact ih.2 r0 x1 M ρ _ h
    · intro r0 x1 M ρ y h
      replace h := ao_ifF h (by decide)
      replace h := ao_ifT h rfl
      cases h
      exact ao_le_th _
set_option maxRecDepth 100000 in
set_option maxHeartbeats 4000000 in
theorem wX10_has {Γ : ao_C} (d : Nat) (hd : 8 ≤ d) (MC MS : Nat) : ∀ n : Nat, (∀ (r0 : Nat) (x1 : Int32) (M : ao_M) (ρ : ao_H) (y : (Int32 ⊕ String) × ao_S), fX10_has n 0 r0 x1 M ρ = some y → ao_W Γ uX10_has (ao_rm d MC MS) (ao_Q Γ (ao_ZI y) MC MS) (ao_dc ρ y.2.2) (ao_ds ρ y.2.2) 0 [some (.ref (Γ.2.2.2 + r0)), some (.int x1)] [] (M, ρ)) ∧ (∀ (r0 : Nat) (x1 : Int32) (M : ao_M) (ρ : ao_H) (y : (Int32 ⊕ String) × ao_S), fX10_has n 10 r0 x1 M ρ = some y → ao_W Γ uX10_has (ao_rm d MC MS) (ao_Q Γ (ao_ZI y) MC MS) (ao_dc ρ y.2.2) (ao_ds ρ y.2.2) 10 [some (.ref (Γ.2.2.2 + r0)), some (.int x1)] [] (M, ρ)) := by
  intro n
  induction n with
  | zero => exact ⟨fun _ _ _ _ _ h => ao_no h, fun _ _ _ _ _ h => ao_no h⟩
  | succ n ih =>
    refine ⟨?_, ?_⟩
    · intro r0 x1 M ρ y h
      replace h := ao_ifT h rfl
      refine ao_iload_n 1 dX10_has_0 rfl rfl ?_
      refine ao_if_lt 10 dX10_has_1 (by decide) (fun c1 => ?_) (fun c1 => ?_)
      · replace h := ao_ifT h c1
        exact ih.2 r0 x1 M ρ _ h
      · replace h := ao_ifF h c1
        refine ao_iload_n 1 dX10_has_4 rfl rfl ?_
        refine ao_bipush (v := 26) dX10_has_5 (by decide) ?_
        refine ao_icmp_lt 20 dX10_has_7 (by decide) (fun c2 => ?_) (fun c2 => ?_)
        · replace h := ao_ifT h c2
          refine ao_aload_n 0 dX10_has_20 rfl rfl ?_
          obtain ⟨hk3, h⟩ := ao_some h
          obtain ⟨j4, hj4, h⟩ := ao_bind h
          refine an_getR r0 10 2 (q := (RX10, TX10, 6)) dX10_has_21 rfl hk3 (Nat.le_of_ble_eq_true rfl) rfl lf_X10_23 hj4 ?_
          obtain ⟨hk5, h⟩ := ao_some h
          obtain ⟨j6, hj6, h⟩ := ao_bind h
          refine an_getR j4 2 0 (q := (RX2, TX2, 7)) dX10_has_24 rfl hk5 (Nat.le_of_ble_eq_true rfl) rfl lf_X10_110 hj6 ?_
          obtain ⟨hk7, h⟩ := ao_some h
          obtain ⟨j8, hj8, h⟩ := ao_bind h
          refine an_getR j6 5 0 (q := (RX5, TX5, 11)) dX10_has_27 rfl hk7 (Nat.le_of_ble_eq_true rfl) rfl lf_X10_151 hj8 ?_
          refine ao_iload_n 1 dX10_has_30 rfl rfl ?_
          obtain ⟨hk9, h⟩ := ao_some h
          obtain ⟨hb10, h⟩ := ao_some h
          refine an_iaload j8 dX10_has_31 hk9 hb10 ?_
          cases h
          exact ao_ireturn dX10_has_32 rfl rfl ⟨rfl, rfl⟩
        · replace h := ao_ifF h c2
          exact ih.2 r0 x1 M ρ _ h
    · intro r0 x1 M ρ y h
      replace h := ao_ifF h (by decide)
      replace h := ao_ifT h rfl
      cases h
      exact cx_throwS "java/lang/IllegalArgumentException" "not a place" ["java/lang/RuntimeException", "java/lang/Exception"] lth_X10_108 rfl dX10_has_10 dX10_has_13 dX10_has_14 dX10_has_16 dX10_has_19 (by omega) (Nat.le_of_ble_eq_true rfl) ao_thM ⟨rfl, rfl⟩
theorem me_X10_has (n : Nat) (r0 : Nat) (x1 : Int32) (M : ao_M) (ρ : ao_H) {y : (Int32 ⊕ String) × ao_S} (h : gX10_has n r0 x1 M ρ = some y) : ao_le ρ y.2.2 := (mX10_has n).1 r0 x1 M ρ y h
set_option maxRecDepth 100000 in
set_option maxHeartbeats 4000000 in
theorem aX10_has {Γ : ao_C} (d : Nat) (hd : 8 ≤ d) (n : Nat) (r0 : Nat) (x1 : Int32) (M : ao_M) (ρ : ao_H) {y : (Int32 ⊕ String) × ao_S} (h : gX10_has n r0 x1 M ρ = some y) : ao_A Γ uX10_has d (ao_dc ρ y.2.2) (ao_ds ρ y.2.2) [.ref (Γ.2.2.2 + r0), .int x1] (M, ρ) (ao_ZI y) := by
  refine ao_of (by decide) (ao_cat1 (Nat.le_of_ble_eq_true rfl)) (Nat.le_of_ble_eq_true rfl) ?_
  show ao_W Γ uX10_has (ao_rm d (ao_dc ρ y.2.2) (ao_ds ρ y.2.2)) (ao_Q Γ (ao_ZI y) (ao_dc ρ y.2.2) (ao_ds ρ y.2.2)) (ao_dc ρ y.2.2) (ao_ds ρ y.2.2) 0 [some (.ref (Γ.2.2.2 + r0)), some (.int x1)] [] (M, ρ)
  exact (wX10_has d hd _ _ n).1 r0 x1 M ρ y h

abbrev uX10_had : ao_Mi := (yX10_had, cX10_had, 3, (some .int), [])
def fX10_had : Nat → Nat → Nat → Int32 → Int32 →  ao_M → ao_H → Option ((Int32 ⊕ String) × ao_S)
  | 0, _, _, _, _, _, _ => none
  | n + 1, pc, r0, x1, x2, M, ρ =>
    if pc = 0 then
      if x1 < 0 then
        fX10_had n 28 r0 x1 x2 M ρ
      else
        if (26 : Int32) ≤ x1 then
          fX10_had n 28 r0 x1 x2 M ρ
        else
          if x2 < 0 then
            fX10_had n 28 r0 x1 x2 M ρ
          else
            if ρ.2.1 r0 = 20 then
            (ρ.1 r0 2).bind fun j5 =>
            if ρ.2.1 j5 = 12 then
            (ρ.1 j5 0).bind fun j7 =>
            if ρ.2.1 j7 = 15 then
            if x2 ≤ (M j7 4) then
              (gX5_valueAt n j7 x1 x2 M ρ).bind fun p10 =>
              some (.inl p10.1, p10.2, ρ)
            else
              fX10_had n 28 r0 x1 x2 M ρ
            else none
            else none
            else none
    else if pc = 28 then
      some (.inr "java/lang/IllegalArgumentException", M, ao_th ρ)
    else none
def gX10_had (n : Nat) (r0 : Nat) (x1 : Int32) (x2 : Int32) (M : ao_M) (ρ : ao_H) : Option ((Int32 ⊕ String) × ao_S) := fX10_had n 0 r0 x1 x2 M ρ
set_option maxRecDepth 100000 in
set_option maxHeartbeats 4000000 in
theorem mX10_had : ∀ n : Nat, (∀ (r0 : Nat) (x1 : Int32) (x2 : Int32) (M : ao_M) (ρ : ao_H) (y : (Int32 ⊕ String) × ao_S), fX10_had n 0 r0 x1 x2 M ρ = some y → ao_le ρ y.2.2) ∧ (∀ (r0 : Nat) (x1 : Int32) (x2 : Int32) (M : ao_M) (ρ : ao_H) (y : (Int32 ⊕ String) × ao_S), fX10_had n 28 r0 x1 x2 M ρ = some y → ao_le ρ y.2.2) := by
  intro n
  induction n with
  | zero => exact ⟨fun _ _ _ _ _ _ h => ao_no h, fun _ _ _ _ _ _ h => ao_no h⟩
  | succ n ih =>
    refine ⟨?_, ?_⟩
    · intro r0 x1 x2 M ρ y h
      replace h := ao_ifT h rfl
      rcases ao_ifC h with h | h
      · exact ih.2 r0 x1 x2 M ρ _ h
      · rcases ao_ifC h with h | h
        · exact ih.2 r0 x1 x2 M ρ _ h
        · rcases ao_ifC h with h | h
          · exact ih.2 r0 x1 x2 M ρ _ h
          · obtain ⟨-, h⟩ := ao_some h
            obtain ⟨j5, hj5, h⟩ := ao_bind h
            obtain ⟨-, h⟩ := ao_some h
            obtain ⟨j7, hj7, h⟩ := ao_bind h
            obtain ⟨-, h⟩ := ao_some h
            rcases ao_ifC h with h | h
            · obtain ⟨p10, hp10, h⟩ := ao_bind h
              cases h
              exact ao_le_rf _
            · exact ih.2 r0 x1 x2 M ρ _ h
    · intro r0 x1 x2 M ρ y h
      replace h := ao_ifF h (by decide)
      replace h := ao_ifT h rfl
      cases h
      exact ao_le_th _
set_option maxRecDepth 100000 in
set_option maxHeartbeats 4000000 in
theorem wX10_had {Γ : ao_C} (d : Nat) (hd : 8 ≤ d) (MC MS : Nat) : ∀ n : Nat, (∀ (r0 : Nat) (x1 : Int32) (x2 : Int32) (M : ao_M) (ρ : ao_H) (y : (Int32 ⊕ String) × ao_S), fX10_had n 0 r0 x1 x2 M ρ = some y → ao_W Γ uX10_had (ao_rm d MC MS) (ao_Q Γ (ao_ZI y) MC MS) (ao_dc ρ y.2.2) (ao_ds ρ y.2.2) 0 [some (.ref (Γ.2.2.2 + r0)), some (.int x1), some (.int x2)] [] (M, ρ)) ∧ (∀ (r0 : Nat) (x1 : Int32) (x2 : Int32) (M : ao_M) (ρ : ao_H) (y : (Int32 ⊕ String) × ao_S), fX10_had n 28 r0 x1 x2 M ρ = some y → ao_W Γ uX10_had (ao_rm d MC MS) (ao_Q Γ (ao_ZI y) MC MS) (ao_dc ρ y.2.2) (ao_ds ρ y.2.2) 28 [some (.ref (Γ.2.2.2 + r0)), some (.int x1), some (.int x2)] [] (M, ρ)) := by
  intro n
  induction n with
  | zero => exact ⟨fun _ _ _ _ _ _ h => ao_no h, fun _ _ _ _ _ _ h => ao_no h⟩
  | succ n ih =>
    refine ⟨?_, ?_⟩
    · intro r0 x1 x2 M ρ y h
      replace h := ao_ifT h rfl
      refine ao_iload_n 1 dX10_had_0 rfl rfl ?_
      refine ao_if_lt 28 dX10_had_1 (by decide) (fun c1 => ?_) (fun c1 => ?_)
      · replace h := ao_ifT h c1
        exact ih.2 r0 x1 x2 M ρ _ h
      · replace h := ao_ifF h c1
        refine ao_iload_n 1 dX10_had_4 rfl rfl ?_
        refine ao_bipush (v := 26) dX10_had_5 (by decide) ?_
        refine ao_icmp_ge 28 dX10_had_7 (by decide) (fun c2 => ?_) (fun c2 => ?_)
        · replace h := ao_ifT h c2
          exact ih.2 r0 x1 x2 M ρ _ h
        · replace h := ao_ifF h c2
          refine ao_iload_n 2 dX10_had_10 rfl rfl ?_
          refine ao_if_lt 28 dX10_had_11 (by decide) (fun c3 => ?_) (fun c3 => ?_)
          · replace h := ao_ifT h c3
            exact ih.2 r0 x1 x2 M ρ _ h
          · replace h := ao_ifF h c3
            refine ao_iload_n 2 dX10_had_14 rfl rfl ?_
            refine ao_aload_n 0 dX10_had_15 rfl rfl ?_
            obtain ⟨hk4, h⟩ := ao_some h
            obtain ⟨j5, hj5, h⟩ := ao_bind h
            refine an_getR r0 10 2 (q := (RX10, TX10, 6)) dX10_had_16 rfl hk4 (Nat.le_of_ble_eq_true rfl) rfl lf_X10_23 hj5 ?_
            obtain ⟨hk6, h⟩ := ao_some h
            obtain ⟨j7, hj7, h⟩ := ao_bind h
            refine an_getR j5 2 0 (q := (RX2, TX2, 7)) dX10_had_19 rfl hk6 (Nat.le_of_ble_eq_true rfl) rfl lf_X10_110 hj7 ?_
            obtain ⟨hk8, h⟩ := ao_some h
            refine an_getI j7 5 4 (q := (RX5, TX5, 11)) dX10_had_22 rfl hk8 (Nat.le_of_ble_eq_true rfl) rfl lf_X10_122 ?_
            refine ao_icmp_le 38 dX10_had_25 (by decide) (fun c9 => ?_) (fun c9 => ?_)
            · replace h := ao_ifT h c9
              refine ao_aload_n 0 dX10_had_38 rfl rfl ?_
              refine an_getR r0 10 2 (q := (RX10, TX10, 6)) dX10_had_39 rfl hk4 (Nat.le_of_ble_eq_true rfl) rfl lf_X10_23 hj5 ?_
              refine an_getR j5 2 0 (q := (RX2, TX2, 7)) dX10_had_42 rfl hk6 (Nat.le_of_ble_eq_true rfl) rfl lf_X10_110 hj7 ?_
              refine ao_iload_n 1 dX10_had_45 rfl rfl ?_
              refine ao_iload_n 2 dX10_had_46 rfl rfl ?_
              obtain ⟨p10, hp10, h⟩ := ao_bind h
              refine an_callVi j7 5 (q := (RX5, TX5, 11)) [.int x1, .int x2] (aX5_valueAt (d - 1) (by omega) _ j7 x1 x2 M ρ hp10) dX10_had_47 lc_X10_156 li_X5_valueAt ls_X5_valueAt rfl hk8 rfl rfl (Nat.le_of_ble_eq_true rfl) (ao_hR (by omega) (by decide)) ?_
              cases h
              exact ao_ireturn dX10_had_50 rfl rfl ⟨rfl, rfl⟩
            · replace h := ao_ifF h c9
              exact ih.2 r0 x1 x2 M ρ _ h
    · intro r0 x1 x2 M ρ y h
      replace h := ao_ifF h (by decide)
      replace h := ao_ifT h rfl
      cases h
      exact cx_throwS "java/lang/IllegalArgumentException" "not a place, or not a clock that was" ["java/lang/RuntimeException", "java/lang/Exception"] lth_X10_154 rfl dX10_had_28 dX10_had_31 dX10_had_32 dX10_had_34 dX10_had_37 (by omega) (Nat.le_of_ble_eq_true rfl) ao_thM ⟨rfl, rfl⟩
theorem me_X10_had (n : Nat) (r0 : Nat) (x1 : Int32) (x2 : Int32) (M : ao_M) (ρ : ao_H) {y : (Int32 ⊕ String) × ao_S} (h : gX10_had n r0 x1 x2 M ρ = some y) : ao_le ρ y.2.2 := (mX10_had n).1 r0 x1 x2 M ρ y h
set_option maxRecDepth 100000 in
set_option maxHeartbeats 4000000 in
theorem aX10_had {Γ : ao_C} (d : Nat) (hd : 8 ≤ d) (n : Nat) (r0 : Nat) (x1 : Int32) (x2 : Int32) (M : ao_M) (ρ : ao_H) {y : (Int32 ⊕ String) × ao_S} (h : gX10_had n r0 x1 x2 M ρ = some y) : ao_A Γ uX10_had d (ao_dc ρ y.2.2) (ao_ds ρ y.2.2) [.ref (Γ.2.2.2 + r0), .int x1, .int x2] (M, ρ) (ao_ZI y) := by
  refine ao_of (by decide) (ao_cat1 (Nat.le_of_ble_eq_true rfl)) (Nat.le_of_ble_eq_true rfl) ?_
  show ao_W Γ uX10_had (ao_rm d (ao_dc ρ y.2.2) (ao_ds ρ y.2.2)) (ao_Q Γ (ao_ZI y) (ao_dc ρ y.2.2) (ao_ds ρ y.2.2)) (ao_dc ρ y.2.2) (ao_ds ρ y.2.2) 0 [some (.ref (Γ.2.2.2 + r0)), some (.int x1), some (.int x2)] [] (M, ρ)
  exact (wX10_had d hd _ _ n).1 r0 x1 x2 M ρ y h

abbrev uX10_register : ao_Mi := (yX10_register, cX10_register, 3, (some .int), [])
def fX10_register : Nat → Nat → Nat → Int32 → Int32 →  ao_M → ao_H → Option ((Int32 ⊕ String) × ao_S)
  | 0, _, _, _, _, _, _ => none
  | n + 1, pc, r0, x1, x2, M, ρ =>
    if pc = 0 then
      if x1 < 0 then
        fX10_register n 20 r0 x1 x2 M ρ
      else
        if (6 : Int32) ≤ x1 then
          fX10_register n 20 r0 x1 x2 M ρ
        else
          if x2 < 0 then
            fX10_register n 20 r0 x1 x2 M ρ
          else
            if x2 < (26 : Int32) then
              if ρ.2.1 r0 = 20 then
              (ρ.1 r0 2).bind fun j6 =>
              if ρ.2.1 j6 = 12 then
              (ρ.1 j6 1).bind fun j8 =>
              if ρ.2.1 j8 = 4 then
              if ¬ (x1 < 0 ∨ ρ.2.2.1 j8 ≤ x1.toNatClampNeg) then
              (ρ.1 j8 x1.toNatClampNeg).bind fun j11 =>
              if ρ.2.1 j11 = 17 then
              (ρ.1 j11 6).bind fun j13 =>
              if ρ.2.1 j13 = 0 then
              if ¬ (x2 < 0 ∨ ρ.2.2.1 j13 ≤ x2.toNatClampNeg) then
              some (.inl (M j13 x2.toNatClampNeg), M, ρ)
              else none
              else none
              else none
              else none
              else none
              else none
              else none
            else
              fX10_register n 20 r0 x1 x2 M ρ
    else if pc = 20 then
      some (.inr "java/lang/IllegalArgumentException", M, ao_th ρ)
    else none
def gX10_register (n : Nat) (r0 : Nat) (x1 : Int32) (x2 : Int32) (M : ao_M) (ρ : ao_H) : Option ((Int32 ⊕ String) × ao_S) := fX10_register n 0 r0 x1 x2 M ρ
set_option maxRecDepth 100000 in
set_option maxHeartbeats 4000000 in
theorem mX10_register : ∀ n : Nat, (∀ (r0 : Nat) (x1 : Int32) (x2 : Int32) (M : ao_M) (ρ : ao_H) (y : (Int32 ⊕ String) × ao_S), fX10_register n 0 r0 x1 x2 M ρ = some y → ao_le ρ y.2.2) ∧ (∀ (r0 : Nat) (x1 : Int32) (x2 : Int32) (M : ao_M) (ρ : ao_H) (y : (Int32 ⊕ String) × ao_S), fX10_register n 20 r0 x1 x2 M ρ = some y → ao_le ρ y.2.2) := by
  intro n
  induction n with
  | zero => exact ⟨fun _ _ _ _ _ _ h => ao_no h, fun _ _ _ _ _ _ h => ao_no h⟩
  | succ n ih =>
    refine ⟨?_, ?_⟩
    · intro r0 x1 x2 M ρ y h
      replace h := ao_ifT h rfl
      rcases ao_ifC h with h | h
      · exact ih.2 r0 x1 x2 M ρ _ h
      · rcases ao_ifC h with h | h
        · exact ih.2 r0 x1 x2 M ρ _ h
        · rcases ao_ifC h with h | h
          · exact ih.2 r0 x1 x2 M ρ _ h
          · rcases ao_ifC h with h | h
            · obtain ⟨-, h⟩ := ao_some h
              obtain ⟨j6, hj6, h⟩ := ao_bind h
              obtain ⟨-, h⟩ := ao_some h
              obtain ⟨j8, hj8, h⟩ := ao_bind h
              obtain ⟨-, h⟩ := ao_some h
              obtain ⟨-, h⟩ := ao_some h
              obtain ⟨j11, hj11, h⟩ := ao_bind h
              obtain ⟨-, h⟩ := ao_some h
              obtain ⟨j13, hj13, h⟩ := ao_bind h
              obtain ⟨-, h⟩ := ao_some h
              obtain ⟨-, h⟩ := ao_some h
              cases h
              exact ao_le_rf _
            · exact ih.2 r0 x1 x2 M ρ _ h
    · intro r0 x1 x2 M ρ y h
      replace h := ao_ifF h (by decide)
      replace h := ao_ifT h rfl
      cases h
      exact ao_le_th _
set_option maxRecDepth 100000 in
set_option maxHeartbeats 4000000 in
theorem wX10_register {Γ : ao_C} (d : Nat) (hd : 8 ≤ d) (MC MS : Nat) : ∀ n : Nat, (∀ (r0 : Nat) (x1 : Int32) (x2 : Int32) (M : ao_M) (ρ : ao_H) (y : (Int32 ⊕ String) × ao_S), fX10_register n 0 r0 x1 x2 M ρ = some y → ao_W Γ uX10_register (ao_rm d MC MS) (ao_Q Γ (ao_ZI y) MC MS) (ao_dc ρ y.2.2) (ao_ds ρ y.2.2) 0 [some (.ref (Γ.2.2.2 + r0)), some (.int x1), some (.int x2)] [] (M, ρ)) ∧ (∀ (r0 : Nat) (x1 : Int32) (x2 : Int32) (M : ao_M) (ρ : ao_H) (y : (Int32 ⊕ String) × ao_S), fX10_register n 20 r0 x1 x2 M ρ = some y → ao_W Γ uX10_register (ao_rm d MC MS) (ao_Q Γ (ao_ZI y) MC MS) (ao_dc ρ y.2.2) (ao_ds ρ y.2.2) 20 [some (.ref (Γ.2.2.2 + r0)), some (.int x1), some (.int x2)] [] (M, ρ)) := by
  intro n
  induction n with
  | zero => exact ⟨fun _ _ _ _ _ _ h => ao_no h, fun _ _ _ _ _ _ h => ao_no h⟩
  | succ n ih =>
    refine ⟨?_, ?_⟩
    · intro r0 x1 x2 M ρ y h
      replace h := ao_ifT h rfl
      refine ao_iload_n 1 dX10_register_0 rfl rfl ?_
      refine ao_if_lt 20 dX10_register_1 (by decide) (fun c1 => ?_) (fun c1 => ?_)
      · replace h := ao_ifT h c1
        exact ih.2 r0 x1 x2 M ρ _ h
      · replace h := ao_ifF h c1
        refine ao_iload_n 1 dX10_register_4 rfl rfl ?_
        refine ao_bipush (v := 6) dX10_register_5 (by decide) ?_
        refine ao_icmp_ge 20 dX10_register_7 (by decide) (fun c2 => ?_) (fun c2 => ?_)
        · replace h := ao_ifT h c2
          exact ih.2 r0 x1 x2 M ρ _ h
        · replace h := ao_ifF h c2
          refine ao_iload_n 2 dX10_register_10 rfl rfl ?_
          refine ao_if_lt 20 dX10_register_11 (by decide) (fun c3 => ?_) (fun c3 => ?_)
          · replace h := ao_ifT h c3
            exact ih.2 r0 x1 x2 M ρ _ h
          · replace h := ao_ifF h c3
            refine ao_iload_n 2 dX10_register_14 rfl rfl ?_
            refine ao_bipush (v := 26) dX10_register_15 (by decide) ?_
            refine ao_icmp_lt 30 dX10_register_17 (by decide) (fun c4 => ?_) (fun c4 => ?_)
            · replace h := ao_ifT h c4
              refine ao_aload_n 0 dX10_register_30 rfl rfl ?_
              obtain ⟨hk5, h⟩ := ao_some h
              obtain ⟨j6, hj6, h⟩ := ao_bind h
              refine an_getR r0 10 2 (q := (RX10, TX10, 6)) dX10_register_31 rfl hk5 (Nat.le_of_ble_eq_true rfl) rfl lf_X10_23 hj6 ?_
              obtain ⟨hk7, h⟩ := ao_some h
              obtain ⟨j8, hj8, h⟩ := ao_bind h
              refine an_getR j6 2 1 (q := (RX2, TX2, 7)) dX10_register_34 rfl hk7 (Nat.le_of_ble_eq_true rfl) rfl lf_X10_67 hj8 ?_
              refine ao_iload_n 1 dX10_register_37 rfl rfl ?_
              obtain ⟨hk9, h⟩ := ao_some h
              obtain ⟨hb10, h⟩ := ao_some h
              obtain ⟨j11, hj11, h⟩ := ao_bind h
              refine an_aaload j8 4 dX10_register_38 hk9 (by decide) hb10 hj11 ?_
              obtain ⟨hk12, h⟩ := ao_some h
              obtain ⟨j13, hj13, h⟩ := ao_bind h
              refine an_getR j11 7 6 (q := (RX7, TX7, 20)) dX10_register_39 rfl hk12 (Nat.le_of_ble_eq_true rfl) rfl lf_X10_162 hj13 ?_
              refine ao_iload_n 2 dX10_register_42 rfl rfl ?_
              obtain ⟨hk14, h⟩ := ao_some h
              obtain ⟨hb15, h⟩ := ao_some h
              refine an_iaload j13 dX10_register_43 hk14 hb15 ?_
              cases h
              exact ao_ireturn dX10_register_44 rfl rfl ⟨rfl, rfl⟩
            · replace h := ao_ifF h c4
              exact ih.2 r0 x1 x2 M ρ _ h
    · intro r0 x1 x2 M ρ y h
      replace h := ao_ifF h (by decide)
      replace h := ao_ifT h rfl
      cases h
      exact cx_throwS "java/lang/IllegalArgumentException" "not a thread, or not a register" ["java/lang/RuntimeException", "java/lang/Exception"] lth_X10_160 rfl dX10_register_20 dX10_register_23 dX10_register_24 dX10_register_26 dX10_register_29 (by omega) (Nat.le_of_ble_eq_true rfl) ao_thM ⟨rfl, rfl⟩
theorem me_X10_register (n : Nat) (r0 : Nat) (x1 : Int32) (x2 : Int32) (M : ao_M) (ρ : ao_H) {y : (Int32 ⊕ String) × ao_S} (h : gX10_register n r0 x1 x2 M ρ = some y) : ao_le ρ y.2.2 := (mX10_register n).1 r0 x1 x2 M ρ y h
set_option maxRecDepth 100000 in
set_option maxHeartbeats 4000000 in
theorem aX10_register {Γ : ao_C} (d : Nat) (hd : 8 ≤ d) (n : Nat) (r0 : Nat) (x1 : Int32) (x2 : Int32) (M : ao_M) (ρ : ao_H) {y : (Int32 ⊕ String) × ao_S} (h : gX10_register n r0 x1 x2 M ρ = some y) : ao_A Γ uX10_register d (ao_dc ρ y.2.2) (ao_ds ρ y.2.2) [.ref (Γ.2.2.2 + r0), .int x1, .int x2] (M, ρ) (ao_ZI y) := by
  refine ao_of (by decide) (ao_cat1 (Nat.le_of_ble_eq_true rfl)) (Nat.le_of_ble_eq_true rfl) ?_
  show ao_W Γ uX10_register (ao_rm d (ao_dc ρ y.2.2) (ao_ds ρ y.2.2)) (ao_Q Γ (ao_ZI y) (ao_dc ρ y.2.2) (ao_ds ρ y.2.2)) (ao_dc ρ y.2.2) (ao_ds ρ y.2.2) 0 [some (.ref (Γ.2.2.2 + r0)), some (.int x1), some (.int x2)] [] (M, ρ)
  exact (wX10_register d hd _ _ n).1 r0 x1 x2 M ρ y h

abbrev uX10_said : ao_Mi := (yX10_said, cX10_said, 4, (some .int), [])
def fX10_said : Nat → Nat → Nat → Int32 → Int32 → Nat →  ao_M → ao_H → Option ((Int32 ⊕ String) × ao_S)
  | 0, _, _, _, _, _, _, _ => none
  | n + 1, pc, r0, x1, x2, r3, M, ρ =>
    if pc = 0 then
      if ρ.2.1 r0 = 20 then
      (ρ.1 r0 2).bind fun j2 =>
      if ρ.2.1 j2 = 12 then
      (ρ.1 j2 2).bind fun j4 =>
      if x1 < 0 then
        fX10_said n 27 r0 x1 x2 j4 M ρ
      else
        if ρ.2.1 j4 = 18 then
        if (M j4 2) ≤ x1 then
          fX10_said n 27 r0 x1 x2 j4 M ρ
        else
          if x1 < (200 : Int32) then
            if x2 = 0 then
              (ρ.1 j4 1).bind fun j10 =>
              if ρ.2.1 j10 = 0 then
              if ¬ (x1 < 0 ∨ ρ.2.2.1 j10 ≤ x1.toNatClampNeg) then
              some (.inl (M j10 x1.toNatClampNeg), M, ρ)
              else none
              else none
            else
              (ρ.1 j4 0).bind fun j13 =>
              if ρ.2.1 j13 = 0 then
              if ¬ (x1 < 0 ∨ ρ.2.2.1 j13 ≤ x1.toNatClampNeg) then
              some (.inl (M j13 x1.toNatClampNeg), M, ρ)
              else none
              else none
          else
            fX10_said n 27 r0 x1 x2 j4 M ρ
        else none
      else none
      else none
    else if pc = 27 then
      some (.inr "java/lang/IndexOutOfBoundsException", M, ao_th ρ)
    else none
def gX10_said (n : Nat) (r0 : Nat) (x1 : Int32) (x2 : Int32) (M : ao_M) (ρ : ao_H) : Option ((Int32 ⊕ String) × ao_S) := fX10_said n 0 r0 x1 x2 0 M ρ
set_option maxRecDepth 100000 in
set_option maxHeartbeats 4000000 in
theorem mX10_said : ∀ n : Nat, (∀ (r0 : Nat) (x1 : Int32) (x2 : Int32) (M : ao_M) (ρ : ao_H) (y : (Int32 ⊕ String) × ao_S), fX10_said n 0 r0 x1 x2 0 M ρ = some y → ao_le ρ y.2.2) ∧ (∀ (r0 : Nat) (x1 : Int32) (x2 : Int32) (r3 : Nat) (M : ao_M) (ρ : ao_H) (y : (Int32 ⊕ String) × ao_S), fX10_said n 27 r0 x1 x2 r3 M ρ = some y → ao_le ρ y.2.2) := by
  intro n
  induction n with
  | zero => exact ⟨fun _ _ _ _ _ _ h => ao_no h, fun _ _ _ _ _ _ _ h => ao_no h⟩
  | succ n ih =>
    refine ⟨?_, ?_⟩
    · intro r0 x1 x2 M ρ y h
      replace h := ao_ifT h rfl
      obtain ⟨-, h⟩ := ao_some h
      obtain ⟨j2, hj2, h⟩ := ao_bind h
      obtain ⟨-, h⟩ := ao_some h
      obtain ⟨j4, hj4, h⟩ := ao_bind h
      rcases ao_ifC h with h | h
      · exact ih.2 r0 x1 x2 j4 M ρ _ h
      · obtain ⟨-, h⟩ := ao_some h
        rcases ao_ifC h with h | h
        · exact ih.2 r0 x1 x2 j4 M ρ _ h
        · rcases ao_ifC h with h | h
          · rcases ao_ifC h with h | h
            · obtain ⟨j10, hj10, h⟩ := ao_bind h
              obtain ⟨-, h⟩ := ao_some h
              obtain ⟨-, h⟩ := ao_some h
              cases h
              exact ao_le_rf _
            · obtain ⟨j13, hj13, h⟩ := ao_bind h
              obtain ⟨-, h⟩ := ao_some h
              obtain ⟨-, h⟩ := ao_some h
              cases h
              exact ao_le_rf _
          · exact ih.2 r0 x1 x2 j4 M ρ _ h
    · intro r0 x1 x2 r3 M ρ y h
      replace h := ao_ifF h (by decide)
      replace h := ao_ifT h rfl
      cases h
      exact ao_le_th _
set_option maxRecDepth 100000 in
set_option maxHeartbeats 4000000 in
theorem wX10_said {Γ : ao_C} (d : Nat) (hd : 8 ≤ d) (MC MS : Nat) : ∀ n : Nat, (∀ (r0 : Nat) (x1 : Int32) (x2 : Int32) (M : ao_M) (ρ : ao_H) (y : (Int32 ⊕ String) × ao_S), fX10_said n 0 r0 x1 x2 0 M ρ = some y → ao_W Γ uX10_said (ao_rm d MC MS) (ao_Q Γ (ao_ZI y) MC MS) (ao_dc ρ y.2.2) (ao_ds ρ y.2.2) 0 [some (.ref (Γ.2.2.2 + r0)), some (.int x1), some (.int x2), none] [] (M, ρ)) ∧ (∀ (r0 : Nat) (x1 : Int32) (x2 : Int32) (r3 : Nat) (M : ao_M) (ρ : ao_H) (y : (Int32 ⊕ String) × ao_S), fX10_said n 27 r0 x1 x2 r3 M ρ = some y → ao_W Γ uX10_said (ao_rm d MC MS) (ao_Q Γ (ao_ZI y) MC MS) (ao_dc ρ y.2.2) (ao_ds ρ y.2.2) 27 [some (.ref (Γ.2.2.2 + r0)), some (.int x1), some (.int x2), some (.ref (Γ.2.2.2 + r3))] [] (M, ρ)) := by
  intro n
  induction n with
  | zero => exact ⟨fun _ _ _ _ _ _ h => ao_no h, fun _ _ _ _ _ _ _ h => ao_no h⟩
  | succ n ih =>
    refine ⟨?_, ?_⟩
    · intro r0 x1 x2 M ρ y h
      replace h := ao_ifT h rfl
      refine ao_aload_n 0 dX10_said_0 rfl rfl ?_
      obtain ⟨hk1, h⟩ := ao_some h
      obtain ⟨j2, hj2, h⟩ := ao_bind h
      refine an_getR r0 10 2 (q := (RX10, TX10, 6)) dX10_said_1 rfl hk1 (Nat.le_of_ble_eq_true rfl) rfl lf_X10_23 hj2 ?_
      obtain ⟨hk3, h⟩ := ao_some h
      obtain ⟨j4, hj4, h⟩ := ao_bind h
      refine an_getR j2 2 2 (q := (RX2, TX2, 7)) dX10_said_4 rfl hk3 (Nat.le_of_ble_eq_true rfl) rfl lf_X10_165 hj4 ?_
      refine ao_astore_n 3 (lo' := [some (.ref (Γ.2.2.2 + r0)), some (.int x1), some (.int x2), some (.ref (Γ.2.2.2 + j4))]) dX10_said_7 rfl (Nat.le_of_ble_eq_true rfl) rfl ?_
      refine ao_iload_n 1 dX10_said_8 rfl rfl ?_
      refine ao_if_lt 27 dX10_said_9 (by decide) (fun c5 => ?_) (fun c5 => ?_)
      · replace h := ao_ifT h c5
        exact ih.2 r0 x1 x2 j4 M ρ _ h
      · replace h := ao_ifF h c5
        refine ao_iload_n 1 dX10_said_12 rfl rfl ?_
        refine ao_aload_n 3 dX10_said_13 rfl rfl ?_
        obtain ⟨hk6, h⟩ := ao_some h
        refine an_getI j4 8 2 (q := (RX8, TX8, 3)) dX10_said_14 rfl hk6 (Nat.le_of_ble_eq_true rfl) rfl lf_X10_169 ?_
        refine ao_icmp_ge 27 dX10_said_17 (by decide) (fun c7 => ?_) (fun c7 => ?_)
        · replace h := ao_ifT h c7
          exact ih.2 r0 x1 x2 j4 M ρ _ h
        · replace h := ao_ifF h c7
          refine ao_iload_n 1 dX10_said_20 rfl rfl ?_
          refine ao_sipush (v := 200) dX10_said_21 (by decide) ?_
          refine ao_icmp_lt 37 dX10_said_24 (by decide) (fun c8 => ?_) (fun c8 => ?_)
          · replace h := ao_ifT h c8
            refine ao_iload_n 2 dX10_said_37 rfl rfl ?_
            refine ao_if_eq 50 dX10_said_38 (by decide) (fun c9 => ?_) (fun c9 => ?_)
            · replace h := ao_ifT h c9
              refine ao_aload_n 3 dX10_said_50 rfl rfl ?_
              obtain ⟨j10, hj10, h⟩ := ao_bind h
              refine an_getR j4 8 1 (q := (RX8, TX8, 3)) dX10_said_51 rfl hk6 (Nat.le_of_ble_eq_true rfl) rfl lf_X10_179 hj10 ?_
              refine ao_iload_n 1 dX10_said_54 rfl rfl ?_
              obtain ⟨hk11, h⟩ := ao_some h
              obtain ⟨hb12, h⟩ := ao_some h
              refine an_iaload j10 dX10_said_55 hk11 hb12 ?_
              cases h
              exact ao_ireturn dX10_said_56 rfl rfl ⟨rfl, rfl⟩
            · replace h := ao_ifF h c9
              refine ao_aload_n 3 dX10_said_41 rfl rfl ?_
              obtain ⟨j13, hj13, h⟩ := ao_bind h
              refine an_getR j4 8 0 (q := (RX8, TX8, 3)) dX10_said_42 rfl hk6 (Nat.le_of_ble_eq_true rfl) rfl lf_X10_176 hj13 ?_
              refine ao_iload_n 1 dX10_said_45 rfl rfl ?_
              obtain ⟨hk14, h⟩ := ao_some h
              obtain ⟨hb15, h⟩ := ao_some h
              refine an_iaload j13 dX10_said_46 hk14 hb15 ?_
              refine ao_goto 56 dX10_said_47 (by decide) ?_
              cases h
              exact ao_ireturn dX10_said_56 rfl rfl ⟨rfl, rfl⟩
          · replace h := ao_ifF h c8
            exact ih.2 r0 x1 x2 j4 M ρ _ h
    · intro r0 x1 x2 r3 M ρ y h
      replace h := ao_ifF h (by decide)
      replace h := ao_ifT h rfl
      cases h
      exact cx_throwS "java/lang/IndexOutOfBoundsException" "not said" ["java/lang/RuntimeException", "java/lang/Exception"] lth_X10_174 rfl dX10_said_27 dX10_said_30 dX10_said_31 dX10_said_33 dX10_said_36 (by omega) (Nat.le_of_ble_eq_true rfl) ao_thM ⟨rfl, rfl⟩
theorem me_X10_said (n : Nat) (r0 : Nat) (x1 : Int32) (x2 : Int32) (M : ao_M) (ρ : ao_H) {y : (Int32 ⊕ String) × ao_S} (h : gX10_said n r0 x1 x2 M ρ = some y) : ao_le ρ y.2.2 := (mX10_said n).1 r0 x1 x2 M ρ y h
set_option maxRecDepth 100000 in
set_option maxHeartbeats 4000000 in
theorem aX10_said {Γ : ao_C} (d : Nat) (hd : 8 ≤ d) (n : Nat) (r0 : Nat) (x1 : Int32) (x2 : Int32) (M : ao_M) (ρ : ao_H) {y : (Int32 ⊕ String) × ao_S} (h : gX10_said n r0 x1 x2 M ρ = some y) : ao_A Γ uX10_said d (ao_dc ρ y.2.2) (ao_ds ρ y.2.2) [.ref (Γ.2.2.2 + r0), .int x1, .int x2] (M, ρ) (ao_ZI y) := by
  refine ao_of (by decide) (ao_cat1 (Nat.le_of_ble_eq_true rfl)) (Nat.le_of_ble_eq_true rfl) ?_
  show ao_W Γ uX10_said (ao_rm d (ao_dc ρ y.2.2) (ao_ds ρ y.2.2)) (ao_Q Γ (ao_ZI y) (ao_dc ρ y.2.2) (ao_ds ρ y.2.2)) (ao_dc ρ y.2.2) (ao_ds ρ y.2.2) 0 [some (.ref (Γ.2.2.2 + r0)), some (.int x1), some (.int x2), none] [] (M, ρ)
  exact (wX10_said d hd _ _ n).1 r0 x1 x2 M ρ y h
