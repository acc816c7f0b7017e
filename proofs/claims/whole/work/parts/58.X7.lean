abbrev uX7_isLeft : ao_Mi := (yX7_isLeft, cX7_isLeft, 1, (some .boolean), [])
def fX7_isLeft : Nat → Nat → Nat →  ao_M → ao_H → Option (Int32 × ao_M)
  | 0, _, _, _, _ => none
  | n + 1, pc, r0, M, ρ =>
    if pc = 0 then
      if ρ.2.1 r0 = 17 then
      if (M r0 2) = (1 : Int32) then
        fX7_isLeft n 24 r0 M ρ
      else
        if (M r0 2) = (2 : Int32) then
          fX7_isLeft n 24 r0 M ρ
        else
          if (M r0 2) = (3 : Int32) then
            fX7_isLeft n 24 r0 M ρ
          else
            some ((0 : Int32), M)
      else none
    else if pc = 24 then
      some ((1 : Int32), M)
    else none
def gX7_isLeft (n : Nat) (r0 : Nat) (M : ao_M) (ρ : ao_H) : Option (Int32 × ao_M) := fX7_isLeft n 0 r0 M ρ
set_option maxRecDepth 100000 in
set_option maxHeartbeats 4000000 in
theorem wX7_isLeft {Γ : ao_C} {ρ : ao_H} (d : Nat) (hd : 0 ≤ d) : ∀ n : Nat, (∀ (r0 : Nat) (M : ao_M) (y : Int32 × ao_M), fX7_isLeft n 0 r0 M ρ = some y → ao_W Γ uX7_isLeft (ao_rm d 0 0) (ao_Q Γ (ao_PI ρ y) 0 0) 0 0 0 [some (.ref (Γ.2.2.2 + r0))] [] (M, ρ)) ∧ (∀ (r0 : Nat) (M : ao_M) (y : Int32 × ao_M), fX7_isLeft n 24 r0 M ρ = some y → ao_W Γ uX7_isLeft (ao_rm d 0 0) (ao_Q Γ (ao_PI ρ y) 0 0) 0 0 24 [some (.ref (Γ.2.2.2 + r0))] [] (M, ρ)) := by
  intro n
  induction n with
  | zero => exact ⟨fun _ _ _ h => ao_no h, fun _ _ _ h => ao_no h⟩
  | succ n ih =>
    refine ⟨?_, ?_⟩
    · intro r0 M y h
      replace h := ao_ifT h rfl
      refine ao_aload_n 0 dX7_isLeft_0 rfl rfl ?_
      obtain ⟨hk1, h⟩ := ao_some h
      refine an_getI r0 7 2 (q := (RX7, TX7, 20)) dX7_isLeft_1 rfl hk1 (Nat.le_of_ble_eq_true rfl) rfl lf_X7_24 ?_
      refine ao_iconst (v := 1) dX7_isLeft_4 (by decide) ?_
      refine ao_icmp_eq 24 dX7_isLeft_5 (by decide) (fun c2 => ?_) (fun c2 => ?_)
      · replace h := ao_ifT h c2
        exact ih.2 r0 M _ h
      · replace h := ao_ifF h c2
        refine ao_aload_n 0 dX7_isLeft_8 rfl rfl ?_
        refine an_getI r0 7 2 (q := (RX7, TX7, 20)) dX7_isLeft_9 rfl hk1 (Nat.le_of_ble_eq_true rfl) rfl lf_X7_24 ?_
        refine ao_iconst (v := 2) dX7_isLeft_12 (by decide) ?_
        refine ao_icmp_eq 24 dX7_isLeft_13 (by decide) (fun c3 => ?_) (fun c3 => ?_)
        · replace h := ao_ifT h c3
          exact ih.2 r0 M _ h
        · replace h := ao_ifF h c3
          refine ao_aload_n 0 dX7_isLeft_16 rfl rfl ?_
          refine an_getI r0 7 2 (q := (RX7, TX7, 20)) dX7_isLeft_17 rfl hk1 (Nat.le_of_ble_eq_true rfl) rfl lf_X7_24 ?_
          refine ao_iconst (v := 3) dX7_isLeft_20 (by decide) ?_
          refine ao_icmp_ne 28 dX7_isLeft_21 (by decide) (fun c4 => ?_) (fun c4 => ?_)
          · replace h := ao_ifF h c4
            refine ao_iconst (v := 0) dX7_isLeft_28 (by decide) ?_
            cases h
            exact ao_ireturn dX7_isLeft_29 rfl rfl ⟨rfl, rfl⟩
          · replace h := ao_ifT h c4
            exact ih.2 r0 M _ h
    · intro r0 M y h
      replace h := ao_ifF h (by decide)
      replace h := ao_ifT h rfl
      refine ao_iconst (v := 1) dX7_isLeft_24 (by decide) ?_
      refine ao_goto 29 dX7_isLeft_25 (by decide) ?_
      cases h
      exact ao_ireturn dX7_isLeft_29 rfl rfl ⟨rfl, rfl⟩
set_option maxRecDepth 100000 in
set_option maxHeartbeats 4000000 in
theorem aX7_isLeft {Γ : ao_C} (d : Nat) (hd : 0 ≤ d) (n : Nat) (r0 : Nat) (M : ao_M) (ρ : ao_H) {y : Int32 × ao_M} (h : gX7_isLeft n r0 M ρ = some y) : ao_A Γ uX7_isLeft d 0 0 [.ref (Γ.2.2.2 + r0)] (M, ρ) (ao_PI ρ y) := by
  refine ao_of (by decide) (ao_cat1 (Nat.le_of_ble_eq_true rfl)) (Nat.le_of_ble_eq_true rfl) ?_
  show ao_W Γ uX7_isLeft (ao_rm d 0 0) (ao_Q Γ (ao_PI ρ y) 0 0) 0 0 0 [some (.ref (Γ.2.2.2 + r0))] [] (M, ρ)
  exact (wX7_isLeft d hd n).1 r0 M y h

abbrev uX7_push : ao_Mi := (yX7_push, cX7_push, 2, none, [])
def gX7_push (r0 : Nat) (x1 : Int32) (M : ao_M) (ρ : ao_H) : Option (ao_M) :=
  if ρ.2.1 r0 = 17 then
  if (M r0 5) < 0 then
    some M
  else
    if (64 : Int32) ≤ (M r0 5) then
      some M
    else
      (ρ.1 r0 4).bind fun j4 =>
      if ρ.2.1 j4 = 0 then
      if ¬ ((M r0 5) < 0 ∨ ρ.2.2.1 j4 ≤ (M r0 5).toNatClampNeg) then
      ao_let (ao_u M j4 (M r0 5).toNatClampNeg x1) fun M7 =>
      ao_let (ao_u M7 r0 5 ((M7 r0 5) + (1 : Int32))) fun M8 =>
      some M8
      else none
      else none
  else none
set_option maxRecDepth 100000 in
set_option maxHeartbeats 4000000 in
theorem aX7_push {Γ : ao_C} (d : Nat) (hd : 0 ≤ d) (r0 : Nat) (x1 : Int32) (M : ao_M) (ρ : ao_H) {y : ao_M} (h : gX7_push r0 x1 M ρ = some y) : ao_A Γ uX7_push d 0 0 [.ref (Γ.2.2.2 + r0), .int x1] (M, ρ) (ao_PV ρ y) := by
  refine ao_of (by decide) (ao_cat1 (Nat.le_of_ble_eq_true rfl)) (Nat.le_of_ble_eq_true rfl) ?_
  show ao_W Γ uX7_push (ao_rm d 0 0) (ao_Q Γ (ao_PV ρ y) 0 0) 0 0 0 [some (.ref (Γ.2.2.2 + r0)), some (.int x1)] [] (M, ρ)
  unfold gX7_push at h
  refine ao_aload_n 0 dX7_push_0 rfl rfl ?_
  obtain ⟨hk1, h⟩ := ao_some h
  refine an_getI r0 7 5 (q := (RX7, TX7, 20)) dX7_push_1 rfl hk1 (Nat.le_of_ble_eq_true rfl) rfl lf_X7_53 ?_
  refine ao_if_lt 36 dX7_push_4 (by decide) (fun c2 => ?_) (fun c2 => ?_)
  · replace h := ao_ifT h c2
    cases h
    exact ao_return dX7_push_36 rfl ⟨rfl, rfl⟩
  · replace h := ao_ifF h c2
    refine ao_aload_n 0 dX7_push_7 rfl rfl ?_
    refine an_getI r0 7 5 (q := (RX7, TX7, 20)) dX7_push_8 rfl hk1 (Nat.le_of_ble_eq_true rfl) rfl lf_X7_53 ?_
    refine ao_bipush (v := 64) dX7_push_11 (by decide) ?_
    refine ao_icmp_ge 36 dX7_push_13 (by decide) (fun c3 => ?_) (fun c3 => ?_)
    · replace h := ao_ifT h c3
      cases h
      exact ao_return dX7_push_36 rfl ⟨rfl, rfl⟩
    · replace h := ao_ifF h c3
      refine ao_aload_n 0 dX7_push_16 rfl rfl ?_
      obtain ⟨j4, hj4, h⟩ := ao_bind h
      refine an_getR r0 7 4 (q := (RX7, TX7, 20)) dX7_push_17 rfl hk1 (Nat.le_of_ble_eq_true rfl) rfl lf_X7_27 hj4 ?_
      refine ao_aload_n 0 dX7_push_20 rfl rfl ?_
      refine an_getI r0 7 5 (q := (RX7, TX7, 20)) dX7_push_21 rfl hk1 (Nat.le_of_ble_eq_true rfl) rfl lf_X7_53 ?_
      refine ao_iload_n 1 dX7_push_24 rfl rfl ?_
      obtain ⟨hk5, h⟩ := ao_some h
      obtain ⟨hb6, h⟩ := ao_some h
      refine an_iastore j4 dX7_push_25 hk5 hb6 (fun M7 hM7 => ?_)
      replace h := ao_letD h hM7
      refine ao_aload_n 0 dX7_push_26 rfl rfl ?_
      refine ao_dup dX7_push_27 rfl ?_
      refine an_getI r0 7 5 (q := (RX7, TX7, 20)) dX7_push_28 rfl hk1 (Nat.le_of_ble_eq_true rfl) rfl lf_X7_53 ?_
      refine ao_iconst (v := 1) dX7_push_31 (by decide) ?_
      refine ao_iadd dX7_push_32 ?_
      refine an_putI r0 7 5 (q := (RX7, TX7, 20)) dX7_push_33 rfl hk1 (Nat.le_of_ble_eq_true rfl) lf_X7_53 rfl rfl rfl rfl (fun M8 hM8 => ?_)
      replace h := ao_letD h hM8
      cases h
      exact ao_return dX7_push_36 rfl ⟨rfl, rfl⟩

abbrev uX7_pop : ao_Mi := (yX7_pop, cX7_pop, 1, (some .int), [])
def gX7_pop (r0 : Nat) (M : ao_M) (ρ : ao_H) : Option (Int32 × ao_M) :=
  if ρ.2.1 r0 = 17 then
  if (M r0 5) ≤ 0 then
    some ((0 : Int32), M)
  else
    if (M r0 5) ≤ (64 : Int32) then
      ao_let (ao_u M r0 5 ((M r0 5) - (1 : Int32))) fun M4 =>
      (ρ.1 r0 4).bind fun j5 =>
      if ρ.2.1 j5 = 0 then
      if ¬ ((M4 r0 5) < 0 ∨ ρ.2.2.1 j5 ≤ (M4 r0 5).toNatClampNeg) then
      some ((M4 j5 (M4 r0 5).toNatClampNeg), M4)
      else none
      else none
    else
      some ((0 : Int32), M)
  else none
set_option maxRecDepth 100000 in
set_option maxHeartbeats 4000000 in
theorem aX7_pop {Γ : ao_C} (d : Nat) (hd : 0 ≤ d) (r0 : Nat) (M : ao_M) (ρ : ao_H) {y : Int32 × ao_M} (h : gX7_pop r0 M ρ = some y) : ao_A Γ uX7_pop d 0 0 [.ref (Γ.2.2.2 + r0)] (M, ρ) (ao_PI ρ y) := by
  refine ao_of (by decide) (ao_cat1 (Nat.le_of_ble_eq_true rfl)) (Nat.le_of_ble_eq_true rfl) ?_
  show ao_W Γ uX7_pop (ao_rm d 0 0) (ao_Q Γ (ao_PI ρ y) 0 0) 0 0 0 [some (.ref (Γ.2.2.2 + r0))] [] (M, ρ)
  unfold gX7_pop at h
  refine ao_aload_n 0 dX7_pop_0 rfl rfl ?_
  obtain ⟨hk1, h⟩ := ao_some h
  refine an_getI r0 7 5 (q := (RX7, TX7, 20)) dX7_pop_1 rfl hk1 (Nat.le_of_ble_eq_true rfl) rfl lf_X7_53 ?_
  refine ao_if_le 16 dX7_pop_4 (by decide) (fun c2 => ?_) (fun c2 => ?_)
  · replace h := ao_ifT h c2
    refine ao_iconst (v := 0) dX7_pop_16 (by decide) ?_
    cases h
    exact ao_ireturn dX7_pop_17 rfl rfl ⟨rfl, rfl⟩
  · replace h := ao_ifF h c2
    refine ao_aload_n 0 dX7_pop_7 rfl rfl ?_
    refine an_getI r0 7 5 (q := (RX7, TX7, 20)) dX7_pop_8 rfl hk1 (Nat.le_of_ble_eq_true rfl) rfl lf_X7_53 ?_
    refine ao_bipush (v := 64) dX7_pop_11 (by decide) ?_
    refine ao_icmp_le 18 dX7_pop_13 (by decide) (fun c3 => ?_) (fun c3 => ?_)
    · replace h := ao_ifT h c3
      refine ao_aload_n 0 dX7_pop_18 rfl rfl ?_
      refine ao_dup dX7_pop_19 rfl ?_
      refine an_getI r0 7 5 (q := (RX7, TX7, 20)) dX7_pop_20 rfl hk1 (Nat.le_of_ble_eq_true rfl) rfl lf_X7_53 ?_
      refine ao_iconst (v := 1) dX7_pop_23 (by decide) ?_
      refine ao_isub dX7_pop_24 ?_
      refine an_putI r0 7 5 (q := (RX7, TX7, 20)) dX7_pop_25 rfl hk1 (Nat.le_of_ble_eq_true rfl) lf_X7_53 rfl rfl rfl rfl (fun M4 hM4 => ?_)
      replace h := ao_letD h hM4
      refine ao_aload_n 0 dX7_pop_28 rfl rfl ?_
      obtain ⟨j5, hj5, h⟩ := ao_bind h
      refine an_getR r0 7 4 (q := (RX7, TX7, 20)) dX7_pop_29 rfl hk1 (Nat.le_of_ble_eq_true rfl) rfl lf_X7_27 hj5 ?_
      refine ao_aload_n 0 dX7_pop_32 rfl rfl ?_
      refine an_getI r0 7 5 (q := (RX7, TX7, 20)) dX7_pop_33 rfl hk1 (Nat.le_of_ble_eq_true rfl) rfl lf_X7_53 ?_
      obtain ⟨hk6, h⟩ := ao_some h
      obtain ⟨hb7, h⟩ := ao_some h
      refine an_iaload j5 dX7_pop_36 hk6 hb7 ?_
      cases h
      exact ao_ireturn dX7_pop_37 rfl rfl ⟨rfl, rfl⟩
    · replace h := ao_ifF h c3
      refine ao_iconst (v := 0) dX7_pop_16 (by decide) ?_
      cases h
      exact ao_ireturn dX7_pop_17 rfl rfl ⟨rfl, rfl⟩

abbrev uX7_level : ao_Mi := (yX7_level, cX7_level, 2, (some (.object "AsOneHouse$Level")), [])
def fX7_level : Nat → Nat → Nat → Int32 → Int32 → Nat →  ao_M → ao_H → Option (Nat × ao_M)
  | 0, _, _, _, _, _, _, _ => none
  | n + 1, pc, r0, x1, s0, q1, M, ρ =>
    if pc = 0 then
      if ρ.2.1 r0 = 17 then
      (ρ.1 r0 7).bind fun j2 =>
      if 0 ≤ x1 then
        if x1 < (10 : Int32) then
          fX7_level n 24 r0 x1 x1 j2 M ρ
        else
          fX7_level n 24 r0 x1 (9 : Int32) j2 M ρ
      else
        fX7_level n 24 r0 x1 (0 : Int32) j2 M ρ
      else none
    else if pc = 24 then
      if ρ.2.1 q1 = 5 then
      if ¬ (s0 < 0 ∨ ρ.2.2.1 q1 ≤ s0.toNatClampNeg) then
      (ρ.1 q1 s0.toNatClampNeg).bind fun j7 =>
      some (j7, M)
      else none
      else none
    else none
def gX7_level (n : Nat) (r0 : Nat) (x1 : Int32) (M : ao_M) (ρ : ao_H) : Option (Nat × ao_M) := fX7_level n 0 r0 x1 0 0 M ρ
set_option maxRecDepth 100000 in
set_option maxHeartbeats 4000000 in
theorem wX7_level {Γ : ao_C} {ρ : ao_H} (d : Nat) (hd : 0 ≤ d) : ∀ n : Nat, (∀ (r0 : Nat) (x1 : Int32) (M : ao_M) (y : Nat × ao_M), fX7_level n 0 r0 x1 0 0 M ρ = some y → ao_W Γ uX7_level (ao_rm d 0 0) (ao_Q Γ (ao_PR Γ ρ y) 0 0) 0 0 0 [some (.ref (Γ.2.2.2 + r0)), some (.int x1)] [] (M, ρ)) ∧ (∀ (r0 : Nat) (x1 : Int32) (s0 : Int32) (q1 : Nat) (M : ao_M) (y : Nat × ao_M), fX7_level n 24 r0 x1 s0 q1 M ρ = some y → ao_W Γ uX7_level (ao_rm d 0 0) (ao_Q Γ (ao_PR Γ ρ y) 0 0) 0 0 24 [some (.ref (Γ.2.2.2 + r0)), some (.int x1)] [.int s0, .ref (Γ.2.2.2 + q1)] (M, ρ)) := by
  intro n
  induction n with
  | zero => exact ⟨fun _ _ _ _ h => ao_no h, fun _ _ _ _ _ _ h => ao_no h⟩
  | succ n ih =>
    refine ⟨?_, ?_⟩
    · intro r0 x1 M y h
      replace h := ao_ifT h rfl
      refine ao_aload_n 0 dX7_level_0 rfl rfl ?_
      obtain ⟨hk1, h⟩ := ao_some h
      obtain ⟨j2, hj2, h⟩ := ao_bind h
      refine an_getR r0 7 7 (q := (RX7, TX7, 20)) dX7_level_1 rfl hk1 (Nat.le_of_ble_eq_true rfl) rfl lf_X7_36 hj2 ?_
      refine ao_iload_n 1 dX7_level_4 rfl rfl ?_
      refine ao_if_ge 12 dX7_level_5 (by decide) (fun c3 => ?_) (fun c3 => ?_)
      · replace h := ao_ifT h c3
        refine ao_iload_n 1 dX7_level_12 rfl rfl ?_
        refine ao_bipush (v := 10) dX7_level_13 (by decide) ?_
        refine ao_icmp_lt 23 dX7_level_15 (by decide) (fun c4 => ?_) (fun c4 => ?_)
        · replace h := ao_ifT h c4
          refine ao_iload_n 1 dX7_level_23 rfl rfl ?_
          exact ih.2 r0 x1 x1 j2 M _ h
        · replace h := ao_ifF h c4
          refine ao_bipush (v := 9) dX7_level_18 (by decide) ?_
          refine ao_goto 24 dX7_level_20 (by decide) ?_
          exact ih.2 r0 x1 (9 : Int32) j2 M _ h
      · replace h := ao_ifF h c3
        refine ao_iconst (v := 0) dX7_level_8 (by decide) ?_
        refine ao_goto 24 dX7_level_9 (by decide) ?_
        exact ih.2 r0 x1 (0 : Int32) j2 M _ h
    · intro r0 x1 s0 q1 M y h
      replace h := ao_ifF h (by decide)
      replace h := ao_ifT h rfl
      obtain ⟨hk5, h⟩ := ao_some h
      obtain ⟨hb6, h⟩ := ao_some h
      obtain ⟨j7, hj7, h⟩ := ao_bind h
      refine an_aaload q1 5 dX7_level_24 hk5 (by decide) hb6 hj7 ?_
      cases h
      exact ao_areturn dX7_level_25 rfl (Or.inl ⟨_, rfl⟩) ⟨rfl, rfl⟩
set_option maxRecDepth 100000 in
set_option maxHeartbeats 4000000 in
theorem aX7_level {Γ : ao_C} (d : Nat) (hd : 0 ≤ d) (n : Nat) (r0 : Nat) (x1 : Int32) (M : ao_M) (ρ : ao_H) {y : Nat × ao_M} (h : gX7_level n r0 x1 M ρ = some y) : ao_A Γ uX7_level d 0 0 [.ref (Γ.2.2.2 + r0), .int x1] (M, ρ) (ao_PR Γ ρ y) := by
  refine ao_of (by decide) (ao_cat1 (Nat.le_of_ble_eq_true rfl)) (Nat.le_of_ble_eq_true rfl) ?_
  show ao_W Γ uX7_level (ao_rm d 0 0) (ao_Q Γ (ao_PR Γ ρ y) 0 0) 0 0 0 [some (.ref (Γ.2.2.2 + r0)), some (.int x1)] [] (M, ρ)
  exact (wX7_level d hd n).1 r0 x1 M y h

abbrev uX7_innermost : ao_Mi := (yX7_innermost, cX7_innermost, 1, (some (.object "AsOneHouse$Level")), [])
def gX7_innermost (n : Nat) (r0 : Nat) (M : ao_M) (ρ : ao_H) : Option (Nat × ao_M) :=
  if ρ.2.1 r0 = 17 then
  (gX7_level n r0 ((M r0 8) - (1 : Int32)) M ρ).bind fun p2 =>
  some (p2.1, p2.2)
  else none
set_option maxRecDepth 100000 in
set_option maxHeartbeats 4000000 in
theorem aX7_innermost {Γ : ao_C} (d : Nat) (hd : 1 ≤ d) (n : Nat) (r0 : Nat) (M : ao_M) (ρ : ao_H) {y : Nat × ao_M} (h : gX7_innermost n r0 M ρ = some y) : ao_A Γ uX7_innermost d 0 0 [.ref (Γ.2.2.2 + r0)] (M, ρ) (ao_PR Γ ρ y) := by
  refine ao_of (by decide) (ao_cat1 (Nat.le_of_ble_eq_true rfl)) (Nat.le_of_ble_eq_true rfl) ?_
  show ao_W Γ uX7_innermost (ao_rm d 0 0) (ao_Q Γ (ao_PR Γ ρ y) 0 0) 0 0 0 [some (.ref (Γ.2.2.2 + r0))] [] (M, ρ)
  unfold gX7_innermost at h
  refine ao_aload_n 0 dX7_innermost_0 rfl rfl ?_
  refine ao_aload_n 0 dX7_innermost_1 rfl rfl ?_
  obtain ⟨hk1, h⟩ := ao_some h
  refine an_getI r0 7 8 (q := (RX7, TX7, 20)) dX7_innermost_2 rfl hk1 (Nat.le_of_ble_eq_true rfl) rfl lf_X7_62 ?_
  refine ao_iconst (v := 1) dX7_innermost_5 (by decide) ?_
  refine ao_isub dX7_innermost_6 ?_
  obtain ⟨p2, hp2, h⟩ := ao_bind h
  refine an_callVr r0 7 (q := (RX7, TX7, 20)) [.int ((M r0 8) - (1 : Int32))] (aX7_level (d - 1) (by omega) _ r0 ((M r0 8) - (1 : Int32)) M ρ hp2) dX7_innermost_7 lc_X7_89 li_X7_level ls_X7_level rfl hk1 rfl rfl (Nat.le_of_ble_eq_true rfl) (ao_hR (by omega) (by decide)) ?_
  cases h
  exact ao_areturn dX7_innermost_10 rfl (Or.inl ⟨_, rfl⟩) ⟨rfl, rfl⟩

abbrev uX7_hold : ao_Mi := (yX7_hold, cX7_hold, 2, none, [])
def gX7_hold (r0 : Nat) (x1 : Int32) (M : ao_M) (ρ : ao_H) : Option (ao_M) :=
  if ρ.2.1 r0 = 17 then
  if (M r0 13) < 0 then
    some M
  else
    if (200 : Int32) ≤ (M r0 13) then
      some M
    else
      (ρ.1 r0 12).bind fun j4 =>
      if ρ.2.1 j4 = 0 then
      if ¬ ((M r0 13) < 0 ∨ ρ.2.2.1 j4 ≤ (M r0 13).toNatClampNeg) then
      ao_let (ao_u M j4 (M r0 13).toNatClampNeg x1) fun M7 =>
      ao_let (ao_u M7 r0 13 ((M7 r0 13) + (1 : Int32))) fun M8 =>
      some M8
      else none
      else none
  else none
set_option maxRecDepth 100000 in
set_option maxHeartbeats 4000000 in
theorem aX7_hold {Γ : ao_C} (d : Nat) (hd : 0 ≤ d) (r0 : Nat) (x1 : Int32) (M : ao_M) (ρ : ao_H) {y : ao_M} (h : gX7_hold r0 x1 M ρ = some y) : ao_A Γ uX7_hold d 0 0 [.ref (Γ.2.2.2 + r0), .int x1] (M, ρ) (ao_PV ρ y) := by
  refine ao_of (by decide) (ao_cat1 (Nat.le_of_ble_eq_true rfl)) (Nat.le_of_ble_eq_true rfl) ?_
  show ao_W Γ uX7_hold (ao_rm d 0 0) (ao_Q Γ (ao_PV ρ y) 0 0) 0 0 0 [some (.ref (Γ.2.2.2 + r0)), some (.int x1)] [] (M, ρ)
  unfold gX7_hold at h
  refine ao_aload_n 0 dX7_hold_0 rfl rfl ?_
  obtain ⟨hk1, h⟩ := ao_some h
  refine an_getI r0 7 13 (q := (RX7, TX7, 20)) dX7_hold_1 rfl hk1 (Nat.le_of_ble_eq_true rfl) rfl lf_X7_68 ?_
  refine ao_if_lt 37 dX7_hold_4 (by decide) (fun c2 => ?_) (fun c2 => ?_)
  · replace h := ao_ifT h c2
    cases h
    exact ao_return dX7_hold_37 rfl ⟨rfl, rfl⟩
  · replace h := ao_ifF h c2
    refine ao_aload_n 0 dX7_hold_7 rfl rfl ?_
    refine an_getI r0 7 13 (q := (RX7, TX7, 20)) dX7_hold_8 rfl hk1 (Nat.le_of_ble_eq_true rfl) rfl lf_X7_68 ?_
    refine ao_sipush (v := 200) dX7_hold_11 (by decide) ?_
    refine ao_icmp_ge 37 dX7_hold_14 (by decide) (fun c3 => ?_) (fun c3 => ?_)
    · replace h := ao_ifT h c3
      cases h
      exact ao_return dX7_hold_37 rfl ⟨rfl, rfl⟩
    · replace h := ao_ifF h c3
      refine ao_aload_n 0 dX7_hold_17 rfl rfl ?_
      obtain ⟨j4, hj4, h⟩ := ao_bind h
      refine an_getR r0 7 12 (q := (RX7, TX7, 20)) dX7_hold_18 rfl hk1 (Nat.le_of_ble_eq_true rfl) rfl lf_X7_47 hj4 ?_
      refine ao_aload_n 0 dX7_hold_21 rfl rfl ?_
      refine an_getI r0 7 13 (q := (RX7, TX7, 20)) dX7_hold_22 rfl hk1 (Nat.le_of_ble_eq_true rfl) rfl lf_X7_68 ?_
      refine ao_iload_n 1 dX7_hold_25 rfl rfl ?_
      obtain ⟨hk5, h⟩ := ao_some h
      obtain ⟨hb6, h⟩ := ao_some h
      refine an_iastore j4 dX7_hold_26 hk5 hb6 (fun M7 hM7 => ?_)
      replace h := ao_letD h hM7
      refine ao_aload_n 0 dX7_hold_27 rfl rfl ?_
      refine ao_dup dX7_hold_28 rfl ?_
      refine an_getI r0 7 13 (q := (RX7, TX7, 20)) dX7_hold_29 rfl hk1 (Nat.le_of_ble_eq_true rfl) rfl lf_X7_68 ?_
      refine ao_iconst (v := 1) dX7_hold_32 (by decide) ?_
      refine ao_iadd dX7_hold_33 ?_
      refine an_putI r0 7 13 (q := (RX7, TX7, 20)) dX7_hold_34 rfl hk1 (Nat.le_of_ble_eq_true rfl) lf_X7_68 rfl rfl rfl rfl (fun M8 hM8 => ?_)
      replace h := ao_letD h hM8
      cases h
      exact ao_return dX7_hold_37 rfl ⟨rfl, rfl⟩

abbrev uX7_enterTry : ao_Mi := (yX7_enterTry, cX7_enterTry, 2, none, [])
def gX7_enterTry (r0 : Nat) (x1 : Int32) (M : ao_M) (ρ : ao_H) : Option (ao_M) :=
  if ρ.2.1 r0 = 17 then
  if (M r0 11) < 0 then
    some M
  else
    if (10 : Int32) ≤ (M r0 11) then
      some M
    else
      (ρ.1 r0 9).bind fun j4 =>
      if ρ.2.1 j4 = 0 then
      if ¬ ((M r0 11) < 0 ∨ ρ.2.2.1 j4 ≤ (M r0 11).toNatClampNeg) then
      ao_let (ao_u M j4 (M r0 11).toNatClampNeg x1) fun M7 =>
      (ρ.1 r0 10).bind fun j8 =>
      if ρ.2.1 j8 = 0 then
      if ¬ ((M7 r0 11) < 0 ∨ ρ.2.2.1 j8 ≤ (M7 r0 11).toNatClampNeg) then
      ao_let (ao_u M7 j8 (M7 r0 11).toNatClampNeg (M7 r0 8)) fun M11 =>
      ao_let (ao_u M11 r0 11 ((M11 r0 11) + (1 : Int32))) fun M12 =>
      some M12
      else none
      else none
      else none
      else none
  else none
set_option maxRecDepth 100000 in
set_option maxHeartbeats 4000000 in
theorem aX7_enterTry {Γ : ao_C} (d : Nat) (hd : 0 ≤ d) (r0 : Nat) (x1 : Int32) (M : ao_M) (ρ : ao_H) {y : ao_M} (h : gX7_enterTry r0 x1 M ρ = some y) : ao_A Γ uX7_enterTry d 0 0 [.ref (Γ.2.2.2 + r0), .int x1] (M, ρ) (ao_PV ρ y) := by
  refine ao_of (by decide) (ao_cat1 (Nat.le_of_ble_eq_true rfl)) (Nat.le_of_ble_eq_true rfl) ?_
  show ao_W Γ uX7_enterTry (ao_rm d 0 0) (ao_Q Γ (ao_PV ρ y) 0 0) 0 0 0 [some (.ref (Γ.2.2.2 + r0)), some (.int x1)] [] (M, ρ)
  unfold gX7_enterTry at h
  refine ao_aload_n 0 dX7_enterTry_0 rfl rfl ?_
  obtain ⟨hk1, h⟩ := ao_some h
  refine an_getI r0 7 11 (q := (RX7, TX7, 20)) dX7_enterTry_1 rfl hk1 (Nat.le_of_ble_eq_true rfl) rfl lf_X7_65 ?_
  refine ao_if_lt 49 dX7_enterTry_4 (by decide) (fun c2 => ?_) (fun c2 => ?_)
  · replace h := ao_ifT h c2
    cases h
    exact ao_return dX7_enterTry_49 rfl ⟨rfl, rfl⟩
  · replace h := ao_ifF h c2
    refine ao_aload_n 0 dX7_enterTry_7 rfl rfl ?_
    refine an_getI r0 7 11 (q := (RX7, TX7, 20)) dX7_enterTry_8 rfl hk1 (Nat.le_of_ble_eq_true rfl) rfl lf_X7_65 ?_
    refine ao_bipush (v := 10) dX7_enterTry_11 (by decide) ?_
    refine ao_icmp_ge 49 dX7_enterTry_13 (by decide) (fun c3 => ?_) (fun c3 => ?_)
    · replace h := ao_ifT h c3
      cases h
      exact ao_return dX7_enterTry_49 rfl ⟨rfl, rfl⟩
    · replace h := ao_ifF h c3
      refine ao_aload_n 0 dX7_enterTry_16 rfl rfl ?_
      obtain ⟨j4, hj4, h⟩ := ao_bind h
      refine an_getR r0 7 9 (q := (RX7, TX7, 20)) dX7_enterTry_17 rfl hk1 (Nat.le_of_ble_eq_true rfl) rfl lf_X7_41 hj4 ?_
      refine ao_aload_n 0 dX7_enterTry_20 rfl rfl ?_
      refine an_getI r0 7 11 (q := (RX7, TX7, 20)) dX7_enterTry_21 rfl hk1 (Nat.le_of_ble_eq_true rfl) rfl lf_X7_65 ?_
      refine ao_iload_n 1 dX7_enterTry_24 rfl rfl ?_
      obtain ⟨hk5, h⟩ := ao_some h
      obtain ⟨hb6, h⟩ := ao_some h
      refine an_iastore j4 dX7_enterTry_25 hk5 hb6 (fun M7 hM7 => ?_)
      replace h := ao_letD h hM7
      refine ao_aload_n 0 dX7_enterTry_26 rfl rfl ?_
      obtain ⟨j8, hj8, h⟩ := ao_bind h
      refine an_getR r0 7 10 (q := (RX7, TX7, 20)) dX7_enterTry_27 rfl hk1 (Nat.le_of_ble_eq_true rfl) rfl lf_X7_44 hj8 ?_
      refine ao_aload_n 0 dX7_enterTry_30 rfl rfl ?_
      refine an_getI r0 7 11 (q := (RX7, TX7, 20)) dX7_enterTry_31 rfl hk1 (Nat.le_of_ble_eq_true rfl) rfl lf_X7_65 ?_
      refine ao_aload_n 0 dX7_enterTry_34 rfl rfl ?_
      refine an_getI r0 7 8 (q := (RX7, TX7, 20)) dX7_enterTry_35 rfl hk1 (Nat.le_of_ble_eq_true rfl) rfl lf_X7_62 ?_
      obtain ⟨hk9, h⟩ := ao_some h
      obtain ⟨hb10, h⟩ := ao_some h
      refine an_iastore j8 dX7_enterTry_38 hk9 hb10 (fun M11 hM11 => ?_)
      replace h := ao_letD h hM11
      refine ao_aload_n 0 dX7_enterTry_39 rfl rfl ?_
      refine ao_dup dX7_enterTry_40 rfl ?_
      refine an_getI r0 7 11 (q := (RX7, TX7, 20)) dX7_enterTry_41 rfl hk1 (Nat.le_of_ble_eq_true rfl) rfl lf_X7_65 ?_
      refine ao_iconst (v := 1) dX7_enterTry_44 (by decide) ?_
      refine ao_iadd dX7_enterTry_45 ?_
      refine an_putI r0 7 11 (q := (RX7, TX7, 20)) dX7_enterTry_46 rfl hk1 (Nat.le_of_ble_eq_true rfl) lf_X7_65 rfl rfl rfl rfl (fun M12 hM12 => ?_)
      replace h := ao_letD h hM12
      cases h
      exact ao_return dX7_enterTry_49 rfl ⟨rfl, rfl⟩

abbrev uX7_leaveTry : ao_Mi := (yX7_leaveTry, cX7_leaveTry, 1, none, [])
def gX7_leaveTry (r0 : Nat) (M : ao_M) (ρ : ao_H) : Option (ao_M) :=
  if ρ.2.1 r0 = 17 then
  if (M r0 11) ≤ 0 then
    some M
  else
    ao_let (ao_u M r0 11 ((M r0 11) - (1 : Int32))) fun M3 =>
    some M3
  else none
set_option maxRecDepth 100000 in
set_option maxHeartbeats 4000000 in
theorem aX7_leaveTry {Γ : ao_C} (d : Nat) (hd : 0 ≤ d) (r0 : Nat) (M : ao_M) (ρ : ao_H) {y : ao_M} (h : gX7_leaveTry r0 M ρ = some y) : ao_A Γ uX7_leaveTry d 0 0 [.ref (Γ.2.2.2 + r0)] (M, ρ) (ao_PV ρ y) := by
  refine ao_of (by decide) (ao_cat1 (Nat.le_of_ble_eq_true rfl)) (Nat.le_of_ble_eq_true rfl) ?_
  show ao_W Γ uX7_leaveTry (ao_rm d 0 0) (ao_Q Γ (ao_PV ρ y) 0 0) 0 0 0 [some (.ref (Γ.2.2.2 + r0))] [] (M, ρ)
  unfold gX7_leaveTry at h
  refine ao_aload_n 0 dX7_leaveTry_0 rfl rfl ?_
  obtain ⟨hk1, h⟩ := ao_some h
  refine an_getI r0 7 11 (q := (RX7, TX7, 20)) dX7_leaveTry_1 rfl hk1 (Nat.le_of_ble_eq_true rfl) rfl lf_X7_65 ?_
  refine ao_if_le 17 dX7_leaveTry_4 (by decide) (fun c2 => ?_) (fun c2 => ?_)
  · replace h := ao_ifT h c2
    cases h
    exact ao_return dX7_leaveTry_17 rfl ⟨rfl, rfl⟩
  · replace h := ao_ifF h c2
    refine ao_aload_n 0 dX7_leaveTry_7 rfl rfl ?_
    refine ao_dup dX7_leaveTry_8 rfl ?_
    refine an_getI r0 7 11 (q := (RX7, TX7, 20)) dX7_leaveTry_9 rfl hk1 (Nat.le_of_ble_eq_true rfl) rfl lf_X7_65 ?_
    refine ao_iconst (v := 1) dX7_leaveTry_12 (by decide) ?_
    refine ao_isub dX7_leaveTry_13 ?_
    refine an_putI r0 7 11 (q := (RX7, TX7, 20)) dX7_leaveTry_14 rfl hk1 (Nat.le_of_ble_eq_true rfl) lf_X7_65 rfl rfl rfl rfl (fun M3 hM3 => ?_)
    replace h := ao_letD h hM3
    cases h
    exact ao_return dX7_leaveTry_17 rfl ⟨rfl, rfl⟩

abbrev uX7_tryAtOf : ao_Mi := (yX7_tryAtOf, cX7_tryAtOf, 2, (some .int), [])
def gX7_tryAtOf (r0 : Nat) (x1 : Int32) (M : ao_M) (ρ : ao_H) : Option (Int32 × ao_M) :=
  if x1 < 0 then
    some ((0 : Int32), M)
  else
    if (10 : Int32) ≤ x1 then
      some ((0 : Int32), M)
    else
      if ρ.2.1 r0 = 17 then
      (ρ.1 r0 9).bind fun j4 =>
      if ρ.2.1 j4 = 0 then
      if ¬ (x1 < 0 ∨ ρ.2.2.1 j4 ≤ x1.toNatClampNeg) then
      some ((M j4 x1.toNatClampNeg), M)
      else none
      else none
      else none
set_option maxRecDepth 100000 in
set_option maxHeartbeats 4000000 in
theorem aX7_tryAtOf {Γ : ao_C} (d : Nat) (hd : 0 ≤ d) (r0 : Nat) (x1 : Int32) (M : ao_M) (ρ : ao_H) {y : Int32 × ao_M} (h : gX7_tryAtOf r0 x1 M ρ = some y) : ao_A Γ uX7_tryAtOf d 0 0 [.ref (Γ.2.2.2 + r0), .int x1] (M, ρ) (ao_PI ρ y) := by
  refine ao_of (by decide) (ao_cat1 (Nat.le_of_ble_eq_true rfl)) (Nat.le_of_ble_eq_true rfl) ?_
  show ao_W Γ uX7_tryAtOf (ao_rm d 0 0) (ao_Q Γ (ao_PI ρ y) 0 0) 0 0 0 [some (.ref (Γ.2.2.2 + r0)), some (.int x1)] [] (M, ρ)
  unfold gX7_tryAtOf at h
  refine ao_iload_n 1 dX7_tryAtOf_0 rfl rfl ?_
  refine ao_if_lt 19 dX7_tryAtOf_1 (by decide) (fun c1 => ?_) (fun c1 => ?_)
  · replace h := ao_ifT h c1
    refine ao_iconst (v := 0) dX7_tryAtOf_19 (by decide) ?_
    cases h
    exact ao_ireturn dX7_tryAtOf_20 rfl rfl ⟨rfl, rfl⟩
  · replace h := ao_ifF h c1
    refine ao_iload_n 1 dX7_tryAtOf_4 rfl rfl ?_
    refine ao_bipush (v := 10) dX7_tryAtOf_5 (by decide) ?_
    refine ao_icmp_ge 19 dX7_tryAtOf_7 (by decide) (fun c2 => ?_) (fun c2 => ?_)
    · replace h := ao_ifT h c2
      refine ao_iconst (v := 0) dX7_tryAtOf_19 (by decide) ?_
      cases h
      exact ao_ireturn dX7_tryAtOf_20 rfl rfl ⟨rfl, rfl⟩
    · replace h := ao_ifF h c2
      refine ao_aload_n 0 dX7_tryAtOf_10 rfl rfl ?_
      obtain ⟨hk3, h⟩ := ao_some h
      obtain ⟨j4, hj4, h⟩ := ao_bind h
      refine an_getR r0 7 9 (q := (RX7, TX7, 20)) dX7_tryAtOf_11 rfl hk3 (Nat.le_of_ble_eq_true rfl) rfl lf_X7_41 hj4 ?_
      refine ao_iload_n 1 dX7_tryAtOf_14 rfl rfl ?_
      obtain ⟨hk5, h⟩ := ao_some h
      obtain ⟨hb6, h⟩ := ao_some h
      refine an_iaload j4 dX7_tryAtOf_15 hk5 hb6 ?_
      refine ao_goto 20 dX7_tryAtOf_16 (by decide) ?_
      cases h
      exact ao_ireturn dX7_tryAtOf_20 rfl rfl ⟨rfl, rfl⟩

abbrev uX7_tryDepthOf : ao_Mi := (yX7_tryDepthOf, cX7_tryDepthOf, 2, (some .int), [])
def gX7_tryDepthOf (r0 : Nat) (x1 : Int32) (M : ao_M) (ρ : ao_H) : Option (Int32 × ao_M) :=
  if x1 < 0 then
    some ((0 : Int32), M)
  else
    if (10 : Int32) ≤ x1 then
      some ((0 : Int32), M)
    else
      if ρ.2.1 r0 = 17 then
      (ρ.1 r0 10).bind fun j4 =>
      if ρ.2.1 j4 = 0 then
      if ¬ (x1 < 0 ∨ ρ.2.2.1 j4 ≤ x1.toNatClampNeg) then
      some ((M j4 x1.toNatClampNeg), M)
      else none
      else none
      else none
set_option maxRecDepth 100000 in
set_option maxHeartbeats 4000000 in
theorem aX7_tryDepthOf {Γ : ao_C} (d : Nat) (hd : 0 ≤ d) (r0 : Nat) (x1 : Int32) (M : ao_M) (ρ : ao_H) {y : Int32 × ao_M} (h : gX7_tryDepthOf r0 x1 M ρ = some y) : ao_A Γ uX7_tryDepthOf d 0 0 [.ref (Γ.2.2.2 + r0), .int x1] (M, ρ) (ao_PI ρ y) := by
  refine ao_of (by decide) (ao_cat1 (Nat.le_of_ble_eq_true rfl)) (Nat.le_of_ble_eq_true rfl) ?_
  show ao_W Γ uX7_tryDepthOf (ao_rm d 0 0) (ao_Q Γ (ao_PI ρ y) 0 0) 0 0 0 [some (.ref (Γ.2.2.2 + r0)), some (.int x1)] [] (M, ρ)
  unfold gX7_tryDepthOf at h
  refine ao_iload_n 1 dX7_tryDepthOf_0 rfl rfl ?_
  refine ao_if_lt 19 dX7_tryDepthOf_1 (by decide) (fun c1 => ?_) (fun c1 => ?_)
  · replace h := ao_ifT h c1
    refine ao_iconst (v := 0) dX7_tryDepthOf_19 (by decide) ?_
    cases h
    exact ao_ireturn dX7_tryDepthOf_20 rfl rfl ⟨rfl, rfl⟩
  · replace h := ao_ifF h c1
    refine ao_iload_n 1 dX7_tryDepthOf_4 rfl rfl ?_
    refine ao_bipush (v := 10) dX7_tryDepthOf_5 (by decide) ?_
    refine ao_icmp_ge 19 dX7_tryDepthOf_7 (by decide) (fun c2 => ?_) (fun c2 => ?_)
    · replace h := ao_ifT h c2
      refine ao_iconst (v := 0) dX7_tryDepthOf_19 (by decide) ?_
      cases h
      exact ao_ireturn dX7_tryDepthOf_20 rfl rfl ⟨rfl, rfl⟩
    · replace h := ao_ifF h c2
      refine ao_aload_n 0 dX7_tryDepthOf_10 rfl rfl ?_
      obtain ⟨hk3, h⟩ := ao_some h
      obtain ⟨j4, hj4, h⟩ := ao_bind h
      refine an_getR r0 7 10 (q := (RX7, TX7, 20)) dX7_tryDepthOf_11 rfl hk3 (Nat.le_of_ble_eq_true rfl) rfl lf_X7_44 hj4 ?_
      refine ao_iload_n 1 dX7_tryDepthOf_14 rfl rfl ?_
      obtain ⟨hk5, h⟩ := ao_some h
      obtain ⟨hb6, h⟩ := ao_some h
      refine an_iaload j4 dX7_tryDepthOf_15 hk5 hb6 ?_
      refine ao_goto 20 dX7_tryDepthOf_16 (by decide) ?_
      cases h
      exact ao_ireturn dX7_tryDepthOf_20 rfl rfl ⟨rfl, rfl⟩

abbrev uX7_levelWithOr : ao_Mi := (yX7_levelWithOr, cX7_levelWithOr, 2, (some .int), [])
def fX7_levelWithOr : Nat → Nat → Nat → Int32 →  ao_M → ao_H → Option (Int32 × ao_M)
  | 0, _, _, _, _, _ => none
  | n + 1, pc, r0, x1, M, ρ =>
    if pc = 0 then
      if ρ.2.1 r0 = 17 then
      ao_let ((M r0 8) - (1 : Int32)) fun v2 =>
      fX7_levelWithOr n 7 r0 v2 M ρ
      else none
    else if pc = 7 then
      if x1 < 0 then
        some ((-1 : Int32), M)
      else
        if ρ.2.1 r0 = 17 then
        (gX7_level n r0 x1 M ρ).bind fun p5 =>
        if ρ.2.1 p5.1 = 13 then
        if (p5.2 p5.1 9) = 0 then
          (ρ.1 r0 1).bind fun j8 =>
          (gX7_level n r0 x1 p5.2 ρ).bind fun p9 =>
          if ρ.2.1 p9.1 = 13 then
          if ρ.2.1 j8 = 11 then
          (gX1_firstAt j8 (p9.2 p9.1 8) p9.2 ρ).bind fun p12 =>
          if p12.1 < 0 then
            fX7_levelWithOr n 42 r0 x1 p12.2 ρ
          else
            some (x1, p12.2)
          else none
          else none
        else
          fX7_levelWithOr n 42 r0 x1 p5.2 ρ
        else none
        else none
    else if pc = 42 then
      ao_let (x1 + (-1 : Int32)) fun v14 =>
      fX7_levelWithOr n 7 r0 v14 M ρ
    else none
def gX7_levelWithOr (n : Nat) (r0 : Nat) (M : ao_M) (ρ : ao_H) : Option (Int32 × ao_M) := fX7_levelWithOr n 0 r0 0 M ρ
set_option maxRecDepth 100000 in
set_option maxHeartbeats 4000000 in
theorem wX7_levelWithOr {Γ : ao_C} {ρ : ao_H} (d : Nat) (hd : 1 ≤ d) : ∀ n : Nat, (∀ (r0 : Nat) (M : ao_M) (y : Int32 × ao_M), fX7_levelWithOr n 0 r0 0 M ρ = some y → ao_W Γ uX7_levelWithOr (ao_rm d 0 0) (ao_Q Γ (ao_PI ρ y) 0 0) 0 0 0 [some (.ref (Γ.2.2.2 + r0)), none] [] (M, ρ)) ∧ (∀ (r0 : Nat) (x1 : Int32) (M : ao_M) (y : Int32 × ao_M), fX7_levelWithOr n 7 r0 x1 M ρ = some y → ao_W Γ uX7_levelWithOr (ao_rm d 0 0) (ao_Q Γ (ao_PI ρ y) 0 0) 0 0 7 [some (.ref (Γ.2.2.2 + r0)), some (.int x1)] [] (M, ρ)) ∧ (∀ (r0 : Nat) (x1 : Int32) (M : ao_M) (y : Int32 × ao_M), fX7_levelWithOr n 42 r0 x1 M ρ = some y → ao_W Γ uX7_levelWithOr (ao_rm d 0 0) (ao_Q Γ (ao_PI ρ y) 0 0) 0 0 42 [some (.ref (Γ.2.2.2 + r0)), some (.int x1)] [] (M, ρ)) := by
  intro n
  induction n with
  | zero => exact ⟨fun _ _ _ h => ao_no h, fun _ _ _ _ h => ao_no h, fun _ _ _ _ h => ao_no h⟩
  | succ n ih =>
    refine ⟨?_, ?_, ?_⟩
    · intro r0 M y h
      replace h := ao_ifT h rfl
      refine ao_aload_n 0 dX7_levelWithOr_0 rfl rfl ?_
      obtain ⟨hk1, h⟩ := ao_some h
      refine an_getI r0 7 8 (q := (RX7, TX7, 20)) dX7_levelWithOr_1 rfl hk1 (Nat.le_of_ble_eq_true rfl) rfl lf_X7_62 ?_
      refine ao_iconst (v := 1) dX7_levelWithOr_4 (by decide) ?_
      refine ao_isub dX7_levelWithOr_5 ?_
      refine an_topi (fun v2 hv2 => ?_)
      replace h := ao_letD h hv2
      refine ao_istore_n 1 (lo' := [some (.ref (Γ.2.2.2 + r0)), some (.int v2)]) dX7_levelWithOr_6 rfl (Nat.le_of_ble_eq_true rfl) rfl ?_
      exact ih.2.1 r0 v2 M _ h
    · intro r0 x1 M y h
      replace h := ao_ifF h (by decide)
      replace h := ao_ifT h rfl
      refine ao_iload_n 1 dX7_levelWithOr_7 rfl rfl ?_
      refine ao_if_lt 48 dX7_levelWithOr_8 (by decide) (fun c3 => ?_) (fun c3 => ?_)
      · replace h := ao_ifT h c3
        refine ao_iconst (v := (-1)) dX7_levelWithOr_48 (by decide) ?_
        cases h
        exact ao_ireturn dX7_levelWithOr_49 rfl rfl ⟨rfl, rfl⟩
      · replace h := ao_ifF h c3
        refine ao_aload_n 0 dX7_levelWithOr_11 rfl rfl ?_
        refine ao_iload_n 1 dX7_levelWithOr_12 rfl rfl ?_
        obtain ⟨hk4, h⟩ := ao_some h
        obtain ⟨p5, hp5, h⟩ := ao_bind h
        refine an_callVr r0 7 (q := (RX7, TX7, 20)) [.int x1] (aX7_level (d - 1) (by omega) _ r0 x1 M ρ hp5) dX7_levelWithOr_13 lc_X7_89 li_X7_level ls_X7_level rfl hk4 rfl rfl (Nat.le_of_ble_eq_true rfl) (ao_hR (by omega) (by decide)) ?_
        obtain ⟨hk6, h⟩ := ao_some h
        refine an_getI p5.1 3 9 (q := (RX3, TX3, 12)) dX7_levelWithOr_16 rfl hk6 (Nat.le_of_ble_eq_true rfl) rfl lf_X7_102 ?_
        refine ao_if_ne 42 dX7_levelWithOr_19 (by decide) (fun c7 => ?_) (fun c7 => ?_)
        · replace h := ao_ifF h c7
          exact ih.2.2 r0 x1 p5.2 _ h
        · replace h := ao_ifT h c7
          refine ao_aload_n 0 dX7_levelWithOr_22 rfl rfl ?_
          obtain ⟨j8, hj8, h⟩ := ao_bind h
          refine an_getR r0 7 1 (q := (RX7, TX7, 20)) dX7_levelWithOr_23 rfl hk4 (Nat.le_of_ble_eq_true rfl) rfl lf_X7_20 hj8 ?_
          refine ao_aload_n 0 dX7_levelWithOr_26 rfl rfl ?_
          refine ao_iload_n 1 dX7_levelWithOr_27 rfl rfl ?_
          obtain ⟨p9, hp9, h⟩ := ao_bind h
          refine an_callVr r0 7 (q := (RX7, TX7, 20)) [.int x1] (aX7_level (d - 1) (by omega) _ r0 x1 p5.2 ρ hp9) dX7_levelWithOr_28 lc_X7_89 li_X7_level ls_X7_level rfl hk4 rfl rfl (Nat.le_of_ble_eq_true rfl) (ao_hR (by omega) (by decide)) ?_
          obtain ⟨hk10, h⟩ := ao_some h
          refine an_getI p9.1 3 8 (q := (RX3, TX3, 12)) dX7_levelWithOr_31 rfl hk10 (Nat.le_of_ble_eq_true rfl) rfl lf_X7_99 ?_
          obtain ⟨hk11, h⟩ := ao_some h
          obtain ⟨p12, hp12, h⟩ := ao_bind h
          refine an_callVi j8 1 (q := (RX1, TX1, 6)) [.int (p9.2 p9.1 8)] (aX1_firstAt (d - 1) (by omega) j8 (p9.2 p9.1 8) p9.2 ρ hp12) dX7_levelWithOr_34 lc_X7_119 li_X1_firstAt ls_X1_firstAt rfl hk11 rfl rfl (Nat.le_of_ble_eq_true rfl) (ao_hR (by omega) (by decide)) ?_
          refine ao_if_lt 42 dX7_levelWithOr_37 (by decide) (fun c13 => ?_) (fun c13 => ?_)
          · replace h := ao_ifT h c13
            exact ih.2.2 r0 x1 p12.2 _ h
          · replace h := ao_ifF h c13
            refine ao_iload_n 1 dX7_levelWithOr_40 rfl rfl ?_
            cases h
            exact ao_ireturn dX7_levelWithOr_41 rfl rfl ⟨rfl, rfl⟩
    · intro r0 x1 M y h
      replace h := ao_ifF h (by decide)
      replace h := ao_ifF h (by decide)
      replace h := ao_ifT h rfl
      obtain ⟨v14, hv14⟩ : ∃ z : Int32, z = x1 + (-1 : Int32) := ⟨_, rfl⟩
      replace h := ao_letD h hv14
      refine ao_iinc 1 (v := v14) (lo' := [some (.ref (Γ.2.2.2 + r0)), some (.int v14)]) dX7_levelWithOr_42 rfl (by rw [hv14]; rfl) (Nat.le_of_ble_eq_true rfl) rfl ?_
      refine ao_goto 7 dX7_levelWithOr_45 (by decide) ?_
      exact ih.2.1 r0 v14 M _ h
set_option maxRecDepth 100000 in
set_option maxHeartbeats 4000000 in
theorem aX7_levelWithOr {Γ : ao_C} (d : Nat) (hd : 1 ≤ d) (n : Nat) (r0 : Nat) (M : ao_M) (ρ : ao_H) {y : Int32 × ao_M} (h : gX7_levelWithOr n r0 M ρ = some y) : ao_A Γ uX7_levelWithOr d 0 0 [.ref (Γ.2.2.2 + r0)] (M, ρ) (ao_PI ρ y) := by
  refine ao_of (by decide) (ao_cat1 (Nat.le_of_ble_eq_true rfl)) (Nat.le_of_ble_eq_true rfl) ?_
  show ao_W Γ uX7_levelWithOr (ao_rm d 0 0) (ao_Q Γ (ao_PI ρ y) 0 0) 0 0 0 [some (.ref (Γ.2.2.2 + r0)), none] [] (M, ρ)
  exact (wX7_levelWithOr d hd n).1 r0 M y h

abbrev uX7_readsOfAll : ao_Mi := (yX7_readsOfAll, cX7_readsOfAll, 3, (some .int), [])
def fX7_readsOfAll : Nat → Nat → Nat → Int32 → Int32 →  ao_M → ao_H → Option (Int32 × ao_M)
  | 0, _, _, _, _, _, _ => none
  | n + 1, pc, r0, x1, x2, M, ρ =>
    if pc = 0 then
      fX7_readsOfAll n 4 r0 (0 : Int32) (0 : Int32) M ρ
    else if pc = 4 then
      if ρ.2.1 r0 = 17 then
      if (M r0 8) ≤ x2 then
        some (x1, M)
      else
        (gX7_level n r0 x2 M ρ).bind fun p3 =>
        if ρ.2.1 p3.1 = 13 then
        ao_let (x1 + (p3.2 p3.1 3)) fun v5 =>
        ao_let (x2 + (1 : Int32)) fun v6 =>
        fX7_readsOfAll n 4 r0 v5 v6 p3.2 ρ
        else none
      else none
    else none
def gX7_readsOfAll (n : Nat) (r0 : Nat) (M : ao_M) (ρ : ao_H) : Option (Int32 × ao_M) := fX7_readsOfAll n 0 r0 0 0 M ρ
set_option maxRecDepth 100000 in
set_option maxHeartbeats 4000000 in
theorem wX7_readsOfAll {Γ : ao_C} {ρ : ao_H} (d : Nat) (hd : 1 ≤ d) : ∀ n : Nat, (∀ (r0 : Nat) (M : ao_M) (y : Int32 × ao_M), fX7_readsOfAll n 0 r0 0 0 M ρ = some y → ao_W Γ uX7_readsOfAll (ao_rm d 0 0) (ao_Q Γ (ao_PI ρ y) 0 0) 0 0 0 [some (.ref (Γ.2.2.2 + r0)), none, none] [] (M, ρ)) ∧ (∀ (r0 : Nat) (x1 : Int32) (x2 : Int32) (M : ao_M) (y : Int32 × ao_M), fX7_readsOfAll n 4 r0 x1 x2 M ρ = some y → ao_W Γ uX7_readsOfAll (ao_rm d 0 0) (ao_Q Γ (ao_PI ρ y) 0 0) 0 0 4 [some (.ref (Γ.2.2.2 + r0)), some (.int x1), some (.int x2)] [] (M, ρ)) := by
  intro n
  induction n with
  | zero => exact ⟨fun _ _ _ h => ao_no h, fun _ _ _ _ _ h => ao_no h⟩
  | succ n ih =>
    refine ⟨?_, ?_⟩
    · intro r0 M y h
      replace h := ao_ifT h rfl
      refine ao_iconst (v := 0) dX7_readsOfAll_0 (by decide) ?_
      refine ao_istore_n 1 (lo' := [some (.ref (Γ.2.2.2 + r0)), some (.int (0 : Int32)), none]) dX7_readsOfAll_1 rfl (Nat.le_of_ble_eq_true rfl) rfl ?_
      refine ao_iconst (v := 0) dX7_readsOfAll_2 (by decide) ?_
      refine ao_istore_n 2 (lo' := [some (.ref (Γ.2.2.2 + r0)), some (.int (0 : Int32)), some (.int (0 : Int32))]) dX7_readsOfAll_3 rfl (Nat.le_of_ble_eq_true rfl) rfl ?_
      exact ih.2 r0 (0 : Int32) (0 : Int32) M _ h
    · intro r0 x1 x2 M y h
      replace h := ao_ifF h (by decide)
      replace h := ao_ifT h rfl
      refine ao_iload_n 2 dX7_readsOfAll_4 rfl rfl ?_
      refine ao_aload_n 0 dX7_readsOfAll_5 rfl rfl ?_
      obtain ⟨hk1, h⟩ := ao_some h
      refine an_getI r0 7 8 (q := (RX7, TX7, 20)) dX7_readsOfAll_6 rfl hk1 (Nat.le_of_ble_eq_true rfl) rfl lf_X7_62 ?_
      refine ao_icmp_ge 29 dX7_readsOfAll_9 (by decide) (fun c2 => ?_) (fun c2 => ?_)
      · replace h := ao_ifT h c2
        refine ao_iload_n 1 dX7_readsOfAll_29 rfl rfl ?_
        cases h
        exact ao_ireturn dX7_readsOfAll_30 rfl rfl ⟨rfl, rfl⟩
      · replace h := ao_ifF h c2
        refine ao_iload_n 1 dX7_readsOfAll_12 rfl rfl ?_
        refine ao_aload_n 0 dX7_readsOfAll_13 rfl rfl ?_
        refine ao_iload_n 2 dX7_readsOfAll_14 rfl rfl ?_
        obtain ⟨p3, hp3, h⟩ := ao_bind h
        refine an_callVr r0 7 (q := (RX7, TX7, 20)) [.int x2] (aX7_level (d - 1) (by omega) _ r0 x2 M ρ hp3) dX7_readsOfAll_15 lc_X7_89 li_X7_level ls_X7_level rfl hk1 rfl rfl (Nat.le_of_ble_eq_true rfl) (ao_hR (by omega) (by decide)) ?_
        obtain ⟨hk4, h⟩ := ao_some h
        refine an_getI p3.1 3 3 (q := (RX3, TX3, 12)) dX7_readsOfAll_18 rfl hk4 (Nat.le_of_ble_eq_true rfl) rfl lf_X7_135 ?_
        refine ao_iadd dX7_readsOfAll_21 ?_
        refine an_topi (fun v5 hv5 => ?_)
        replace h := ao_letD h hv5
        refine ao_istore_n 1 (lo' := [some (.ref (Γ.2.2.2 + r0)), some (.int v5), some (.int x2)]) dX7_readsOfAll_22 rfl (Nat.le_of_ble_eq_true rfl) rfl ?_
        obtain ⟨v6, hv6⟩ : ∃ z : Int32, z = x2 + (1 : Int32) := ⟨_, rfl⟩
        replace h := ao_letD h hv6
        refine ao_iinc 2 (v := v6) (lo' := [some (.ref (Γ.2.2.2 + r0)), some (.int v5), some (.int v6)]) dX7_readsOfAll_23 rfl (by rw [hv6]; rfl) (Nat.le_of_ble_eq_true rfl) rfl ?_
        refine ao_goto 4 dX7_readsOfAll_26 (by decide) ?_
        exact ih.2 r0 v5 v6 p3.2 _ h
set_option maxRecDepth 100000 in
set_option maxHeartbeats 4000000 in
theorem aX7_readsOfAll {Γ : ao_C} (d : Nat) (hd : 1 ≤ d) (n : Nat) (r0 : Nat) (M : ao_M) (ρ : ao_H) {y : Int32 × ao_M} (h : gX7_readsOfAll n r0 M ρ = some y) : ao_A Γ uX7_readsOfAll d 0 0 [.ref (Γ.2.2.2 + r0)] (M, ρ) (ao_PI ρ y) := by
  refine ao_of (by decide) (ao_cat1 (Nat.le_of_ble_eq_true rfl)) (Nat.le_of_ble_eq_true rfl) ?_
  show ao_W Γ uX7_readsOfAll (ao_rm d 0 0) (ao_Q Γ (ao_PI ρ y) 0 0) 0 0 0 [some (.ref (Γ.2.2.2 + r0)), none, none] [] (M, ρ)
  exact (wX7_readsOfAll d hd n).1 r0 M y h

abbrev uX7_writesOfAll : ao_Mi := (yX7_writesOfAll, cX7_writesOfAll, 3, (some .int), [])
def fX7_writesOfAll : Nat → Nat → Nat → Int32 → Int32 →  ao_M → ao_H → Option (Int32 × ao_M)
  | 0, _, _, _, _, _, _ => none
  | n + 1, pc, r0, x1, x2, M, ρ =>
    if pc = 0 then
      fX7_writesOfAll n 4 r0 (0 : Int32) (0 : Int32) M ρ
    else if pc = 4 then
      if ρ.2.1 r0 = 17 then
      if (M r0 8) ≤ x2 then
        some (x1, M)
      else
        (gX7_level n r0 x2 M ρ).bind fun p3 =>
        if ρ.2.1 p3.1 = 13 then
        ao_let (x1 ||| (p3.2 p3.1 6)) fun v5 =>
        ao_let (x2 + (1 : Int32)) fun v6 =>
        fX7_writesOfAll n 4 r0 v5 v6 p3.2 ρ
        else none
      else none
    else none
def gX7_writesOfAll (n : Nat) (r0 : Nat) (M : ao_M) (ρ : ao_H) : Option (Int32 × ao_M) := fX7_writesOfAll n 0 r0 0 0 M ρ
set_option maxRecDepth 100000 in
set_option maxHeartbeats 4000000 in
theorem wX7_writesOfAll {Γ : ao_C} {ρ : ao_H} (d : Nat) (hd : 1 ≤ d) : ∀ n : Nat, (∀ (r0 : Nat) (M : ao_M) (y : Int32 × ao_M), fX7_writesOfAll n 0 r0 0 0 M ρ = some y → ao_W Γ uX7_writesOfAll (ao_rm d 0 0) (ao_Q Γ (ao_PI ρ y) 0 0) 0 0 0 [some (.ref (Γ.2.2.2 + r0)), none, none] [] (M, ρ)) ∧ (∀ (r0 : Nat) (x1 : Int32) (x2 : Int32) (M : ao_M) (y : Int32 × ao_M), fX7_writesOfAll n 4 r0 x1 x2 M ρ = some y → ao_W Γ uX7_writesOfAll (ao_rm d 0 0) (ao_Q Γ (ao_PI ρ y) 0 0) 0 0 4 [some (.ref (Γ.2.2.2 + r0)), some (.int x1), some (.int x2)] [] (M, ρ)) := by
  intro n
  induction n with
  | zero => exact ⟨fun _ _ _ h => ao_no h, fun _ _ _ _ _ h => ao_no h⟩
  | succ n ih =>
    refine ⟨?_, ?_⟩
    · intro r0 M y h
      replace h := ao_ifT h rfl
      refine ao_iconst (v := 0) dX7_writesOfAll_0 (by decide) ?_
      refine ao_istore_n 1 (lo' := [some (.ref (Γ.2.2.2 + r0)), some (.int (0 : Int32)), none]) dX7_writesOfAll_1 rfl (Nat.le_of_ble_eq_true rfl) rfl ?_
      refine ao_iconst (v := 0) dX7_writesOfAll_2 (by decide) ?_
      refine ao_istore_n 2 (lo' := [some (.ref (Γ.2.2.2 + r0)), some (.int (0 : Int32)), some (.int (0 : Int32))]) dX7_writesOfAll_3 rfl (Nat.le_of_ble_eq_true rfl) rfl ?_
      exact ih.2 r0 (0 : Int32) (0 : Int32) M _ h
    · intro r0 x1 x2 M y h
      replace h := ao_ifF h (by decide)
      replace h := ao_ifT h rfl
      refine ao_iload_n 2 dX7_writesOfAll_4 rfl rfl ?_
      refine ao_aload_n 0 dX7_writesOfAll_5 rfl rfl ?_
      obtain ⟨hk1, h⟩ := ao_some h
      refine an_getI r0 7 8 (q := (RX7, TX7, 20)) dX7_writesOfAll_6 rfl hk1 (Nat.le_of_ble_eq_true rfl) rfl lf_X7_62 ?_
      refine ao_icmp_ge 29 dX7_writesOfAll_9 (by decide) (fun c2 => ?_) (fun c2 => ?_)
      · replace h := ao_ifT h c2
        refine ao_iload_n 1 dX7_writesOfAll_29 rfl rfl ?_
        cases h
        exact ao_ireturn dX7_writesOfAll_30 rfl rfl ⟨rfl, rfl⟩
      · replace h := ao_ifF h c2
        refine ao_iload_n 1 dX7_writesOfAll_12 rfl rfl ?_
        refine ao_aload_n 0 dX7_writesOfAll_13 rfl rfl ?_
        refine ao_iload_n 2 dX7_writesOfAll_14 rfl rfl ?_
        obtain ⟨p3, hp3, h⟩ := ao_bind h
        refine an_callVr r0 7 (q := (RX7, TX7, 20)) [.int x2] (aX7_level (d - 1) (by omega) _ r0 x2 M ρ hp3) dX7_writesOfAll_15 lc_X7_89 li_X7_level ls_X7_level rfl hk1 rfl rfl (Nat.le_of_ble_eq_true rfl) (ao_hR (by omega) (by decide)) ?_
        obtain ⟨hk4, h⟩ := ao_some h
        refine an_getI p3.1 3 6 (q := (RX3, TX3, 12)) dX7_writesOfAll_18 rfl hk4 (Nat.le_of_ble_eq_true rfl) rfl lf_X7_138 ?_
        refine ao_ior dX7_writesOfAll_21 ?_
        refine an_topi (fun v5 hv5 => ?_)
        replace h := ao_letD h hv5
        refine ao_istore_n 1 (lo' := [some (.ref (Γ.2.2.2 + r0)), some (.int v5), some (.int x2)]) dX7_writesOfAll_22 rfl (Nat.le_of_ble_eq_true rfl) rfl ?_
        obtain ⟨v6, hv6⟩ : ∃ z : Int32, z = x2 + (1 : Int32) := ⟨_, rfl⟩
        replace h := ao_letD h hv6
        refine ao_iinc 2 (v := v6) (lo' := [some (.ref (Γ.2.2.2 + r0)), some (.int v5), some (.int v6)]) dX7_writesOfAll_23 rfl (by rw [hv6]; rfl) (Nat.le_of_ble_eq_true rfl) rfl ?_
        refine ao_goto 4 dX7_writesOfAll_26 (by decide) ?_
        exact ih.2 r0 v5 v6 p3.2 _ h
set_option maxRecDepth 100000 in
set_option maxHeartbeats 4000000 in
theorem aX7_writesOfAll {Γ : ao_C} (d : Nat) (hd : 1 ≤ d) (n : Nat) (r0 : Nat) (M : ao_M) (ρ : ao_H) {y : Int32 × ao_M} (h : gX7_writesOfAll n r0 M ρ = some y) : ao_A Γ uX7_writesOfAll d 0 0 [.ref (Γ.2.2.2 + r0)] (M, ρ) (ao_PI ρ y) := by
  refine ao_of (by decide) (ao_cat1 (Nat.le_of_ble_eq_true rfl)) (Nat.le_of_ble_eq_true rfl) ?_
  show ao_W Γ uX7_writesOfAll (ao_rm d 0 0) (ao_Q Γ (ao_PI ρ y) 0 0) 0 0 0 [some (.ref (Γ.2.2.2 + r0)), none, none] [] (M, ρ)
  exact (wX7_writesOfAll d hd n).1 r0 M y h
