abbrev uX9_advance : ao_Mi := (yX9_advance, cX9_advance, 1, none, [])
def fX9_advance : Nat → Nat → Nat →  ao_M → ao_H → Option (ao_M)
  | 0, _, _, _, _ => none
  | n + 1, pc, r0, M, ρ =>
    if pc = 0 then
      if ρ.2.1 r0 = 19 then
      if ((M r0 6) - (1 : Int32)) ≤ (M r0 7) then
        fX9_advance n 23 r0 M ρ
      else
        ao_let (ao_u M r0 7 ((M r0 7) + (1 : Int32))) fun M3 =>
        fX9_advance n 23 r0 M3 ρ
      else none
    else if pc = 23 then
      if ρ.2.1 r0 = 19 then
      if (M r0 7) < 0 then
        some M
      else
        if (1001 : Int32) ≤ (M r0 7) then
          some M
        else
          (ρ.1 r0 3).bind fun j7 =>
          if ρ.2.1 j7 = 0 then
          if ¬ ((M r0 7) < 0 ∨ ρ.2.2.1 j7 ≤ (M r0 7).toNatClampNeg) then
          ao_let (ao_u M r0 8 (M j7 (M r0 7).toNatClampNeg)) fun M10 =>
          (ρ.1 r0 4).bind fun j11 =>
          if ρ.2.1 j11 = 0 then
          if ¬ ((M10 r0 7) < 0 ∨ ρ.2.2.1 j11 ≤ (M10 r0 7).toNatClampNeg) then
          ao_let (ao_u M10 r0 9 (M10 j11 (M10 r0 7).toNatClampNeg)) fun M14 =>
          (ρ.1 r0 5).bind fun j15 =>
          if ρ.2.1 j15 = 0 then
          if ¬ ((M14 r0 7) < 0 ∨ ρ.2.2.1 j15 ≤ (M14 r0 7).toNatClampNeg) then
          ao_let (ao_u M14 r0 10 (M14 j15 (M14 r0 7).toNatClampNeg)) fun M18 =>
          some M18
          else none
          else none
          else none
          else none
          else none
          else none
      else none
    else none
def gX9_advance (n : Nat) (r0 : Nat) (M : ao_M) (ρ : ao_H) : Option (ao_M) := fX9_advance n 0 r0 M ρ
set_option maxRecDepth 100000 in
set_option maxHeartbeats 4000000 in
theorem wX9_advance {Γ : ao_C} {ρ : ao_H} (d : Nat) (hd : 0 ≤ d) : ∀ n : Nat, (∀ (r0 : Nat) (M : ao_M) (y : ao_M), fX9_advance n 0 r0 M ρ = some y → ao_W Γ uX9_advance (ao_rm d 0 0) (ao_Q Γ (ao_PV ρ y) 0 0) 0 0 0 [some (.ref (Γ.2.2.2 + r0))] [] (M, ρ)) ∧ (∀ (r0 : Nat) (M : ao_M) (y : ao_M), fX9_advance n 23 r0 M ρ = some y → ao_W Γ uX9_advance (ao_rm d 0 0) (ao_Q Γ (ao_PV ρ y) 0 0) 0 0 23 [some (.ref (Γ.2.2.2 + r0))] [] (M, ρ)) := by
  intro n
  induction n with
  | zero => exact ⟨fun _ _ _ h => ao_no h, fun _ _ _ h => ao_no h⟩
  | succ n ih =>
    refine ⟨?_, ?_⟩
    · intro r0 M y h
      replace h := ao_ifT h rfl
      refine ao_aload_n 0 dX9_advance_0 rfl rfl ?_
      obtain ⟨hk1, h⟩ := ao_some h
      refine an_getI r0 9 7 (q := (RX9, TX9, 11)) dX9_advance_1 rfl hk1 (Nat.le_of_ble_eq_true rfl) rfl lf_X9_47 ?_
      refine ao_aload_n 0 dX9_advance_4 rfl rfl ?_
      refine an_getI r0 9 6 (q := (RX9, TX9, 11)) dX9_advance_5 rfl hk1 (Nat.le_of_ble_eq_true rfl) rfl lf_X9_35 ?_
      refine ao_iconst (v := 1) dX9_advance_8 (by decide) ?_
      refine ao_isub dX9_advance_9 ?_
      refine ao_icmp_ge 23 dX9_advance_10 (by decide) (fun c2 => ?_) (fun c2 => ?_)
      · replace h := ao_ifT h c2
        exact ih.2 r0 M _ h
      · replace h := ao_ifF h c2
        refine ao_aload_n 0 dX9_advance_13 rfl rfl ?_
        refine ao_dup dX9_advance_14 rfl ?_
        refine an_getI r0 9 7 (q := (RX9, TX9, 11)) dX9_advance_15 rfl hk1 (Nat.le_of_ble_eq_true rfl) rfl lf_X9_47 ?_
        refine ao_iconst (v := 1) dX9_advance_18 (by decide) ?_
        refine ao_iadd dX9_advance_19 ?_
        refine an_putI r0 9 7 (q := (RX9, TX9, 11)) dX9_advance_20 rfl hk1 (Nat.le_of_ble_eq_true rfl) lf_X9_47 rfl rfl rfl rfl (fun M3 hM3 => ?_)
        replace h := ao_letD h hM3
        exact ih.2 r0 M3 _ h
    · intro r0 M y h
      replace h := ao_ifF h (by decide)
      replace h := ao_ifT h rfl
      refine ao_aload_n 0 dX9_advance_23 rfl rfl ?_
      obtain ⟨hk4, h⟩ := ao_some h
      refine an_getI r0 9 7 (q := (RX9, TX9, 11)) dX9_advance_24 rfl hk4 (Nat.le_of_ble_eq_true rfl) rfl lf_X9_47 ?_
      refine ao_if_lt 79 dX9_advance_27 (by decide) (fun c5 => ?_) (fun c5 => ?_)
      · replace h := ao_ifT h c5
        cases h
        exact ao_return dX9_advance_79 rfl ⟨rfl, rfl⟩
      · replace h := ao_ifF h c5
        refine ao_aload_n 0 dX9_advance_30 rfl rfl ?_
        refine an_getI r0 9 7 (q := (RX9, TX9, 11)) dX9_advance_31 rfl hk4 (Nat.le_of_ble_eq_true rfl) rfl lf_X9_47 ?_
        refine ao_sipush (v := 1001) dX9_advance_34 (by decide) ?_
        refine ao_icmp_ge 79 dX9_advance_37 (by decide) (fun c6 => ?_) (fun c6 => ?_)
        · replace h := ao_ifT h c6
          cases h
          exact ao_return dX9_advance_79 rfl ⟨rfl, rfl⟩
        · replace h := ao_ifF h c6
          refine ao_aload_n 0 dX9_advance_40 rfl rfl ?_
          refine ao_aload_n 0 dX9_advance_41 rfl rfl ?_
          obtain ⟨j7, hj7, h⟩ := ao_bind h
          refine an_getR r0 9 3 (q := (RX9, TX9, 11)) dX9_advance_42 rfl hk4 (Nat.le_of_ble_eq_true rfl) rfl lf_X9_15 hj7 ?_
          refine ao_aload_n 0 dX9_advance_45 rfl rfl ?_
          refine an_getI r0 9 7 (q := (RX9, TX9, 11)) dX9_advance_46 rfl hk4 (Nat.le_of_ble_eq_true rfl) rfl lf_X9_47 ?_
          obtain ⟨hk8, h⟩ := ao_some h
          obtain ⟨hb9, h⟩ := ao_some h
          refine an_iaload j7 dX9_advance_49 hk8 hb9 ?_
          refine an_putI r0 9 8 (q := (RX9, TX9, 11)) dX9_advance_50 rfl hk4 (Nat.le_of_ble_eq_true rfl) lf_X9_32 rfl rfl rfl rfl (fun M10 hM10 => ?_)
          replace h := ao_letD h hM10
          refine ao_aload_n 0 dX9_advance_53 rfl rfl ?_
          refine ao_aload_n 0 dX9_advance_54 rfl rfl ?_
          obtain ⟨j11, hj11, h⟩ := ao_bind h
          refine an_getR r0 9 4 (q := (RX9, TX9, 11)) dX9_advance_55 rfl hk4 (Nat.le_of_ble_eq_true rfl) rfl lf_X9_19 hj11 ?_
          refine ao_aload_n 0 dX9_advance_58 rfl rfl ?_
          refine an_getI r0 9 7 (q := (RX9, TX9, 11)) dX9_advance_59 rfl hk4 (Nat.le_of_ble_eq_true rfl) rfl lf_X9_47 ?_
          obtain ⟨hk12, h⟩ := ao_some h
          obtain ⟨hb13, h⟩ := ao_some h
          refine an_iaload j11 dX9_advance_62 hk12 hb13 ?_
          refine an_putI r0 9 9 (q := (RX9, TX9, 11)) dX9_advance_63 rfl hk4 (Nat.le_of_ble_eq_true rfl) lf_X9_41 rfl rfl rfl rfl (fun M14 hM14 => ?_)
          replace h := ao_letD h hM14
          refine ao_aload_n 0 dX9_advance_66 rfl rfl ?_
          refine ao_aload_n 0 dX9_advance_67 rfl rfl ?_
          obtain ⟨j15, hj15, h⟩ := ao_bind h
          refine an_getR r0 9 5 (q := (RX9, TX9, 11)) dX9_advance_68 rfl hk4 (Nat.le_of_ble_eq_true rfl) rfl lf_X9_22 hj15 ?_
          refine ao_aload_n 0 dX9_advance_71 rfl rfl ?_
          refine an_getI r0 9 7 (q := (RX9, TX9, 11)) dX9_advance_72 rfl hk4 (Nat.le_of_ble_eq_true rfl) rfl lf_X9_47 ?_
          obtain ⟨hk16, h⟩ := ao_some h
          obtain ⟨hb17, h⟩ := ao_some h
          refine an_iaload j15 dX9_advance_75 hk16 hb17 ?_
          refine an_putI r0 9 10 (q := (RX9, TX9, 11)) dX9_advance_76 rfl hk4 (Nat.le_of_ble_eq_true rfl) lf_X9_44 rfl rfl rfl rfl (fun M18 hM18 => ?_)
          replace h := ao_letD h hM18
          cases h
          exact ao_return dX9_advance_79 rfl ⟨rfl, rfl⟩
set_option maxRecDepth 100000 in
set_option maxHeartbeats 4000000 in
theorem aX9_advance {Γ : ao_C} (d : Nat) (hd : 0 ≤ d) (n : Nat) (r0 : Nat) (M : ao_M) (ρ : ao_H) {y : ao_M} (h : gX9_advance n r0 M ρ = some y) : ao_A Γ uX9_advance d 0 0 [.ref (Γ.2.2.2 + r0)] (M, ρ) (ao_PV ρ y) := by
  refine ao_of (by decide) (ao_cat1 (Nat.le_of_ble_eq_true rfl)) (Nat.le_of_ble_eq_true rfl) ?_
  show ao_W Γ uX9_advance (ao_rm d 0 0) (ao_Q Γ (ao_PV ρ y) 0 0) 0 0 0 [some (.ref (Γ.2.2.2 + r0))] [] (M, ρ)
  exact (wX9_advance d hd n).1 r0 M y h

abbrev uX9_byteAt : ao_Mi := (yX9_byteAt, cX9_byteAt, 2, (some .int), [])
def gX9_byteAt (r0 : Nat) (x1 : Int32) (M : ao_M) (ρ : ao_H) : Option (Int32 × ao_M) :=
  if x1 < 0 then
    some ((-1 : Int32), M)
  else
    if ρ.2.1 r0 = 19 then
    if (M r0 1) ≤ x1 then
      some ((-1 : Int32), M)
    else
      (ρ.1 r0 0).bind fun j4 =>
      if ρ.2.1 j4 = 1 then
      if (nI (ρ.2.2.1 j4)) ≤ x1 then
        some ((-1 : Int32), M)
      else
        if ¬ (x1 < 0 ∨ ρ.2.2.1 j4 ≤ x1.toNatClampNeg) then
        some (((M j4 x1.toNatClampNeg) &&& (255 : Int32)), M)
        else none
      else none
    else none
set_option maxRecDepth 100000 in
set_option maxHeartbeats 4000000 in
theorem aX9_byteAt {Γ : ao_C} (d : Nat) (hd : 0 ≤ d) (r0 : Nat) (x1 : Int32) (M : ao_M) (ρ : ao_H) {y : Int32 × ao_M} (h : gX9_byteAt r0 x1 M ρ = some y) : ao_A Γ uX9_byteAt d 0 0 [.ref (Γ.2.2.2 + r0), .int x1] (M, ρ) (ao_PI ρ y) := by
  refine ao_of (by decide) (ao_cat1 (Nat.le_of_ble_eq_true rfl)) (Nat.le_of_ble_eq_true rfl) ?_
  show ao_W Γ uX9_byteAt (ao_rm d 0 0) (ao_Q Γ (ao_PI ρ y) 0 0) 0 0 0 [some (.ref (Γ.2.2.2 + r0)), some (.int x1)] [] (M, ρ)
  unfold gX9_byteAt at h
  refine ao_iload_n 1 dX9_byteAt_0 rfl rfl ?_
  refine ao_if_lt 34 dX9_byteAt_1 (by decide) (fun c1 => ?_) (fun c1 => ?_)
  · replace h := ao_ifT h c1
    refine ao_iconst (v := (-1)) dX9_byteAt_34 (by decide) ?_
    cases h
    exact ao_ireturn dX9_byteAt_35 rfl rfl ⟨rfl, rfl⟩
  · replace h := ao_ifF h c1
    refine ao_iload_n 1 dX9_byteAt_4 rfl rfl ?_
    refine ao_aload_n 0 dX9_byteAt_5 rfl rfl ?_
    obtain ⟨hk2, h⟩ := ao_some h
    refine an_getI r0 9 1 (q := (RX9, TX9, 11)) dX9_byteAt_6 rfl hk2 (Nat.le_of_ble_eq_true rfl) rfl lf_X9_25 ?_
    refine ao_icmp_ge 34 dX9_byteAt_9 (by decide) (fun c3 => ?_) (fun c3 => ?_)
    · replace h := ao_ifT h c3
      refine ao_iconst (v := (-1)) dX9_byteAt_34 (by decide) ?_
      cases h
      exact ao_ireturn dX9_byteAt_35 rfl rfl ⟨rfl, rfl⟩
    · replace h := ao_ifF h c3
      refine ao_iload_n 1 dX9_byteAt_12 rfl rfl ?_
      refine ao_aload_n 0 dX9_byteAt_13 rfl rfl ?_
      obtain ⟨j4, hj4, h⟩ := ao_bind h
      refine an_getR r0 9 0 (q := (RX9, TX9, 11)) dX9_byteAt_14 rfl hk2 (Nat.le_of_ble_eq_true rfl) rfl lf_X9_9 hj4 ?_
      obtain ⟨hk5, h⟩ := ao_some h
      refine an_alen j4 1 dX9_byteAt_17 hk5 (by decide) ?_
      refine ao_icmp_ge 34 dX9_byteAt_18 (by decide) (fun c6 => ?_) (fun c6 => ?_)
      · replace h := ao_ifT h c6
        refine ao_iconst (v := (-1)) dX9_byteAt_34 (by decide) ?_
        cases h
        exact ao_ireturn dX9_byteAt_35 rfl rfl ⟨rfl, rfl⟩
      · replace h := ao_ifF h c6
        refine ao_aload_n 0 dX9_byteAt_21 rfl rfl ?_
        refine an_getR r0 9 0 (q := (RX9, TX9, 11)) dX9_byteAt_22 rfl hk2 (Nat.le_of_ble_eq_true rfl) rfl lf_X9_9 hj4 ?_
        refine ao_iload_n 1 dX9_byteAt_25 rfl rfl ?_
        obtain ⟨hb7, h⟩ := ao_some h
        refine an_baload j4 dX9_byteAt_26 hk5 hb7 ?_
        refine ao_sipush (v := 255) dX9_byteAt_27 (by decide) ?_
        refine ao_iand dX9_byteAt_30 ?_
        refine ao_goto 35 dX9_byteAt_31 (by decide) ?_
        cases h
        exact ao_ireturn dX9_byteAt_35 rfl rfl ⟨rfl, rfl⟩

abbrev uX9_isBlank : ao_Mi := (yX9_isBlank, cX9_isBlank, 1, (some .boolean), [])
def fX9_isBlank : Nat → Nat → Int32 →  ao_M → ao_H → Option (Int32 × ao_M)
  | 0, _, _, _, _ => none
  | n + 1, pc, x0, M, ρ =>
    if pc = 0 then
      if x0 = (10 : Int32) then
        fX9_isBlank n 12 x0 M ρ
      else
        if x0 = (32 : Int32) then
          fX9_isBlank n 12 x0 M ρ
        else
          some ((0 : Int32), M)
    else if pc = 12 then
      some ((1 : Int32), M)
    else none
def gX9_isBlank (n : Nat) (x0 : Int32) (M : ao_M) (ρ : ao_H) : Option (Int32 × ao_M) := fX9_isBlank n 0 x0 M ρ
set_option maxRecDepth 100000 in
set_option maxHeartbeats 4000000 in
theorem wX9_isBlank {Γ : ao_C} {ρ : ao_H} (d : Nat) (hd : 0 ≤ d) : ∀ n : Nat, (∀ (x0 : Int32) (M : ao_M) (y : Int32 × ao_M), fX9_isBlank n 0 x0 M ρ = some y → ao_W Γ uX9_isBlank (ao_rm d 0 0) (ao_Q Γ (ao_PI ρ y) 0 0) 0 0 0 [some (.int x0)] [] (M, ρ)) ∧ (∀ (x0 : Int32) (M : ao_M) (y : Int32 × ao_M), fX9_isBlank n 12 x0 M ρ = some y → ao_W Γ uX9_isBlank (ao_rm d 0 0) (ao_Q Γ (ao_PI ρ y) 0 0) 0 0 12 [some (.int x0)] [] (M, ρ)) := by
  intro n
  induction n with
  | zero => exact ⟨fun _ _ _ h => ao_no h, fun _ _ _ h => ao_no h⟩
  | succ n ih =>
    refine ⟨?_, ?_⟩
    · intro x0 M y h
      replace h := ao_ifT h rfl
      refine ao_iload_n 0 dX9_isBlank_0 rfl rfl ?_
      refine ao_bipush (v := 10) dX9_isBlank_1 (by decide) ?_
      refine ao_icmp_eq 12 dX9_isBlank_3 (by decide) (fun c1 => ?_) (fun c1 => ?_)
      · replace h := ao_ifT h c1
        exact ih.2 x0 M _ h
      · replace h := ao_ifF h c1
        refine ao_iload_n 0 dX9_isBlank_6 rfl rfl ?_
        refine ao_bipush (v := 32) dX9_isBlank_7 (by decide) ?_
        refine ao_icmp_ne 16 dX9_isBlank_9 (by decide) (fun c2 => ?_) (fun c2 => ?_)
        · replace h := ao_ifF h c2
          refine ao_iconst (v := 0) dX9_isBlank_16 (by decide) ?_
          cases h
          exact ao_ireturn dX9_isBlank_17 rfl rfl ⟨rfl, rfl⟩
        · replace h := ao_ifT h c2
          exact ih.2 x0 M _ h
    · intro x0 M y h
      replace h := ao_ifF h (by decide)
      replace h := ao_ifT h rfl
      refine ao_iconst (v := 1) dX9_isBlank_12 (by decide) ?_
      refine ao_goto 17 dX9_isBlank_13 (by decide) ?_
      cases h
      exact ao_ireturn dX9_isBlank_17 rfl rfl ⟨rfl, rfl⟩
set_option maxRecDepth 100000 in
set_option maxHeartbeats 4000000 in
theorem aX9_isBlank {Γ : ao_C} (d : Nat) (hd : 0 ≤ d) (n : Nat) (x0 : Int32) (M : ao_M) (ρ : ao_H) {y : Int32 × ao_M} (h : gX9_isBlank n x0 M ρ = some y) : ao_A Γ uX9_isBlank d 0 0 [.int x0] (M, ρ) (ao_PI ρ y) := by
  refine ao_of (by decide) (ao_cat1 (Nat.le_of_ble_eq_true rfl)) (Nat.le_of_ble_eq_true rfl) ?_
  show ao_W Γ uX9_isBlank (ao_rm d 0 0) (ao_Q Γ (ao_PI ρ y) 0 0) 0 0 0 [some (.int x0)] [] (M, ρ)
  exact (wX9_isBlank d hd n).1 x0 M y h

abbrev uX9_isSmall : ao_Mi := (yX9_isSmall, cX9_isSmall, 1, (some .boolean), [])
def gX9_isSmall (x0 : Int32) (M : ao_M) (ρ : ao_H) : Option (Int32 × ao_M) :=
  if x0 < (97 : Int32) then
    some ((0 : Int32), M)
  else
    if (122 : Int32) < x0 then
      some ((0 : Int32), M)
    else
      some ((1 : Int32), M)
set_option maxRecDepth 100000 in
set_option maxHeartbeats 4000000 in
theorem aX9_isSmall {Γ : ao_C} (d : Nat) (hd : 0 ≤ d) (x0 : Int32) (M : ao_M) (ρ : ao_H) {y : Int32 × ao_M} (h : gX9_isSmall x0 M ρ = some y) : ao_A Γ uX9_isSmall d 0 0 [.int x0] (M, ρ) (ao_PI ρ y) := by
  refine ao_of (by decide) (ao_cat1 (Nat.le_of_ble_eq_true rfl)) (Nat.le_of_ble_eq_true rfl) ?_
  show ao_W Γ uX9_isSmall (ao_rm d 0 0) (ao_Q Γ (ao_PI ρ y) 0 0) 0 0 0 [some (.int x0)] [] (M, ρ)
  unfold gX9_isSmall at h
  refine ao_iload_n 0 dX9_isSmall_0 rfl rfl ?_
  refine ao_bipush (v := 97) dX9_isSmall_1 (by decide) ?_
  refine ao_icmp_lt 16 dX9_isSmall_3 (by decide) (fun c1 => ?_) (fun c1 => ?_)
  · replace h := ao_ifT h c1
    refine ao_iconst (v := 0) dX9_isSmall_16 (by decide) ?_
    cases h
    exact ao_ireturn dX9_isSmall_17 rfl rfl ⟨rfl, rfl⟩
  · replace h := ao_ifF h c1
    refine ao_iload_n 0 dX9_isSmall_6 rfl rfl ?_
    refine ao_bipush (v := 122) dX9_isSmall_7 (by decide) ?_
    refine ao_icmp_gt 16 dX9_isSmall_9 (by decide) (fun c2 => ?_) (fun c2 => ?_)
    · replace h := ao_ifT h c2
      refine ao_iconst (v := 0) dX9_isSmall_16 (by decide) ?_
      cases h
      exact ao_ireturn dX9_isSmall_17 rfl rfl ⟨rfl, rfl⟩
    · replace h := ao_ifF h c2
      refine ao_iconst (v := 1) dX9_isSmall_12 (by decide) ?_
      refine ao_goto 17 dX9_isSmall_13 (by decide) ?_
      cases h
      exact ao_ireturn dX9_isSmall_17 rfl rfl ⟨rfl, rfl⟩

abbrev uX9_isLetter : ao_Mi := (yX9_isLetter, cX9_isLetter, 1, (some .boolean), [])
def fX9_isLetter : Nat → Nat → Int32 →  ao_M → ao_H → Option (Int32 × ao_M)
  | 0, _, _, _, _ => none
  | n + 1, pc, x0, M, ρ =>
    if pc = 0 then
      (gX9_isSmall x0 M ρ).bind fun p1 =>
      if p1.1 = 0 then
        if x0 < (65 : Int32) then
          some ((0 : Int32), p1.2)
        else
          if (90 : Int32) < x0 then
            some ((0 : Int32), p1.2)
          else
            fX9_isLetter n 19 x0 p1.2 ρ
      else
        fX9_isLetter n 19 x0 p1.2 ρ
    else if pc = 19 then
      some ((1 : Int32), M)
    else none
def gX9_isLetter (n : Nat) (x0 : Int32) (M : ao_M) (ρ : ao_H) : Option (Int32 × ao_M) := fX9_isLetter n 0 x0 M ρ
set_option maxRecDepth 100000 in
set_option maxHeartbeats 4000000 in
theorem wX9_isLetter {Γ : ao_C} {ρ : ao_H} (d : Nat) (hd : 1 ≤ d) : ∀ n : Nat, (∀ (x0 : Int32) (M : ao_M) (y : Int32 × ao_M), fX9_isLetter n 0 x0 M ρ = some y → ao_W Γ uX9_isLetter (ao_rm d 0 0) (ao_Q Γ (ao_PI ρ y) 0 0) 0 0 0 [some (.int x0)] [] (M, ρ)) ∧ (∀ (x0 : Int32) (M : ao_M) (y : Int32 × ao_M), fX9_isLetter n 19 x0 M ρ = some y → ao_W Γ uX9_isLetter (ao_rm d 0 0) (ao_Q Γ (ao_PI ρ y) 0 0) 0 0 19 [some (.int x0)] [] (M, ρ)) := by
  intro n
  induction n with
  | zero => exact ⟨fun _ _ _ h => ao_no h, fun _ _ _ h => ao_no h⟩
  | succ n ih =>
    refine ⟨?_, ?_⟩
    · intro x0 M y h
      replace h := ao_ifT h rfl
      refine ao_iload_n 0 dX9_isLetter_0 rfl rfl ?_
      obtain ⟨p1, hp1, h⟩ := ao_bind h
      refine an_callSi [.int x0] (aX9_isSmall (d - 1) (by omega) x0 M ρ hp1) dX9_isLetter_1 lc_X9_77 lt_X9_isSmall rfl rfl (Nat.le_of_ble_eq_true rfl) (ao_hR (by omega) (by decide)) ?_
      refine ao_if_ne 19 dX9_isLetter_4 (by decide) (fun c2 => ?_) (fun c2 => ?_)
      · replace h := ao_ifF h c2
        exact ih.2 x0 p1.2 _ h
      · replace h := ao_ifT h c2
        refine ao_iload_n 0 dX9_isLetter_7 rfl rfl ?_
        refine ao_bipush (v := 65) dX9_isLetter_8 (by decide) ?_
        refine ao_icmp_lt 23 dX9_isLetter_10 (by decide) (fun c3 => ?_) (fun c3 => ?_)
        · replace h := ao_ifT h c3
          refine ao_iconst (v := 0) dX9_isLetter_23 (by decide) ?_
          cases h
          exact ao_ireturn dX9_isLetter_24 rfl rfl ⟨rfl, rfl⟩
        · replace h := ao_ifF h c3
          refine ao_iload_n 0 dX9_isLetter_13 rfl rfl ?_
          refine ao_bipush (v := 90) dX9_isLetter_14 (by decide) ?_
          refine ao_icmp_gt 23 dX9_isLetter_16 (by decide) (fun c4 => ?_) (fun c4 => ?_)
          · replace h := ao_ifT h c4
            refine ao_iconst (v := 0) dX9_isLetter_23 (by decide) ?_
            cases h
            exact ao_ireturn dX9_isLetter_24 rfl rfl ⟨rfl, rfl⟩
          · replace h := ao_ifF h c4
            exact ih.2 x0 p1.2 _ h
    · intro x0 M y h
      replace h := ao_ifF h (by decide)
      replace h := ao_ifT h rfl
      refine ao_iconst (v := 1) dX9_isLetter_19 (by decide) ?_
      refine ao_goto 24 dX9_isLetter_20 (by decide) ?_
      cases h
      exact ao_ireturn dX9_isLetter_24 rfl rfl ⟨rfl, rfl⟩
set_option maxRecDepth 100000 in
set_option maxHeartbeats 4000000 in
theorem aX9_isLetter {Γ : ao_C} (d : Nat) (hd : 1 ≤ d) (n : Nat) (x0 : Int32) (M : ao_M) (ρ : ao_H) {y : Int32 × ao_M} (h : gX9_isLetter n x0 M ρ = some y) : ao_A Γ uX9_isLetter d 0 0 [.int x0] (M, ρ) (ao_PI ρ y) := by
  refine ao_of (by decide) (ao_cat1 (Nat.le_of_ble_eq_true rfl)) (Nat.le_of_ble_eq_true rfl) ?_
  show ao_W Γ uX9_isLetter (ao_rm d 0 0) (ao_Q Γ (ao_PI ρ y) 0 0) 0 0 0 [some (.int x0)] [] (M, ρ)
  exact (wX9_isLetter d hd n).1 x0 M y h

abbrev uX9_isDigit : ao_Mi := (yX9_isDigit, cX9_isDigit, 1, (some .boolean), [])
def gX9_isDigit (x0 : Int32) (M : ao_M) (ρ : ao_H) : Option (Int32 × ao_M) :=
  if x0 < (48 : Int32) then
    some ((0 : Int32), M)
  else
    if (57 : Int32) < x0 then
      some ((0 : Int32), M)
    else
      some ((1 : Int32), M)
set_option maxRecDepth 100000 in
set_option maxHeartbeats 4000000 in
theorem aX9_isDigit {Γ : ao_C} (d : Nat) (hd : 0 ≤ d) (x0 : Int32) (M : ao_M) (ρ : ao_H) {y : Int32 × ao_M} (h : gX9_isDigit x0 M ρ = some y) : ao_A Γ uX9_isDigit d 0 0 [.int x0] (M, ρ) (ao_PI ρ y) := by
  refine ao_of (by decide) (ao_cat1 (Nat.le_of_ble_eq_true rfl)) (Nat.le_of_ble_eq_true rfl) ?_
  show ao_W Γ uX9_isDigit (ao_rm d 0 0) (ao_Q Γ (ao_PI ρ y) 0 0) 0 0 0 [some (.int x0)] [] (M, ρ)
  unfold gX9_isDigit at h
  refine ao_iload_n 0 dX9_isDigit_0 rfl rfl ?_
  refine ao_bipush (v := 48) dX9_isDigit_1 (by decide) ?_
  refine ao_icmp_lt 16 dX9_isDigit_3 (by decide) (fun c1 => ?_) (fun c1 => ?_)
  · replace h := ao_ifT h c1
    refine ao_iconst (v := 0) dX9_isDigit_16 (by decide) ?_
    cases h
    exact ao_ireturn dX9_isDigit_17 rfl rfl ⟨rfl, rfl⟩
  · replace h := ao_ifF h c1
    refine ao_iload_n 0 dX9_isDigit_6 rfl rfl ?_
    refine ao_bipush (v := 57) dX9_isDigit_7 (by decide) ?_
    refine ao_icmp_gt 16 dX9_isDigit_9 (by decide) (fun c2 => ?_) (fun c2 => ?_)
    · replace h := ao_ifT h c2
      refine ao_iconst (v := 0) dX9_isDigit_16 (by decide) ?_
      cases h
      exact ao_ireturn dX9_isDigit_17 rfl rfl ⟨rfl, rfl⟩
    · replace h := ao_ifF h c2
      refine ao_iconst (v := 1) dX9_isDigit_12 (by decide) ?_
      refine ao_goto 17 dX9_isDigit_13 (by decide) ?_
      cases h
      exact ao_ireturn dX9_isDigit_17 rfl rfl ⟨rfl, rfl⟩

abbrev uX9_numberKind : ao_Mi := (yX9_numberKind, cX9_numberKind, 1, (some .int), [])
def fX9_numberKind : Nat → Nat → Nat →  ao_M → ao_H → Option (Int32 × ao_M)
  | 0, _, _, _, _ => none
  | n + 1, pc, r0, M, ρ =>
    if pc = 0 then
      if ρ.2.1 r0 = 19 then
      if (M r0 1) ≤ (M r0 2) then
        fX9_numberKind n 70 r0 M ρ
      else
        (gX9_byteAt r0 (M r0 2) M ρ).bind fun p3 =>
        (gX9_isDigit p3.1 p3.2 ρ).bind fun p4 =>
        if p4.1 = 0 then
          fX9_numberKind n 70 r0 p4.2 ρ
        else
          if (1000000 : Int32) < (p4.2 r0 10) then
            fX9_numberKind n 57 r0 p4.2 ρ
          else
            (gX9_byteAt r0 (p4.2 r0 2) p4.2 ρ).bind fun p7 =>
            ao_let (ao_u p7.2 r0 10 ((((p4.2 r0 10) * (10 : Int32)) + p7.1) - (48 : Int32))) fun M8 =>
            fX9_numberKind n 57 r0 M8 ρ
      else none
    else if pc = 57 then
      if ρ.2.1 r0 = 19 then
      ao_let (ao_u M r0 2 ((M r0 2) + (1 : Int32))) fun M10 =>
      fX9_numberKind n 0 r0 M10 ρ
      else none
    else if pc = 70 then
      if ρ.2.1 r0 = 19 then
      if (1000000 : Int32) < (M r0 10) then
        some ((1 : Int32), M)
      else
        some ((4 : Int32), M)
      else none
    else none
def gX9_numberKind (n : Nat) (r0 : Nat) (M : ao_M) (ρ : ao_H) : Option (Int32 × ao_M) := fX9_numberKind n 0 r0 M ρ
set_option maxRecDepth 100000 in
set_option maxHeartbeats 4000000 in
theorem wX9_numberKind {Γ : ao_C} {ρ : ao_H} (d : Nat) (hd : 1 ≤ d) : ∀ n : Nat, (∀ (r0 : Nat) (M : ao_M) (y : Int32 × ao_M), fX9_numberKind n 0 r0 M ρ = some y → ao_W Γ uX9_numberKind (ao_rm d 0 0) (ao_Q Γ (ao_PI ρ y) 0 0) 0 0 0 [some (.ref (Γ.2.2.2 + r0))] [] (M, ρ)) ∧ (∀ (r0 : Nat) (M : ao_M) (y : Int32 × ao_M), fX9_numberKind n 57 r0 M ρ = some y → ao_W Γ uX9_numberKind (ao_rm d 0 0) (ao_Q Γ (ao_PI ρ y) 0 0) 0 0 57 [some (.ref (Γ.2.2.2 + r0))] [] (M, ρ)) ∧ (∀ (r0 : Nat) (M : ao_M) (y : Int32 × ao_M), fX9_numberKind n 70 r0 M ρ = some y → ao_W Γ uX9_numberKind (ao_rm d 0 0) (ao_Q Γ (ao_PI ρ y) 0 0) 0 0 70 [some (.ref (Γ.2.2.2 + r0))] [] (M, ρ)) := by
  intro n
  induction n with
  | zero => exact ⟨fun _ _ _ h => ao_no h, fun _ _ _ h => ao_no h, fun _ _ _ h => ao_no h⟩
  | succ n ih =>
    refine ⟨?_, ?_, ?_⟩
    · intro r0 M y h
      replace h := ao_ifT h rfl
      refine ao_aload_n 0 dX9_numberKind_0 rfl rfl ?_
      obtain ⟨hk1, h⟩ := ao_some h
      refine an_getI r0 9 2 (q := (RX9, TX9, 11)) dX9_numberKind_1 rfl hk1 (Nat.le_of_ble_eq_true rfl) rfl lf_X9_29 ?_
      refine ao_aload_n 0 dX9_numberKind_4 rfl rfl ?_
      refine an_getI r0 9 1 (q := (RX9, TX9, 11)) dX9_numberKind_5 rfl hk1 (Nat.le_of_ble_eq_true rfl) rfl lf_X9_25 ?_
      refine ao_icmp_ge 70 dX9_numberKind_8 (by decide) (fun c2 => ?_) (fun c2 => ?_)
      · replace h := ao_ifT h c2
        exact ih.2.2 r0 M _ h
      · replace h := ao_ifF h c2
        refine ao_aload_n 0 dX9_numberKind_11 rfl rfl ?_
        refine ao_aload_n 0 dX9_numberKind_12 rfl rfl ?_
        refine an_getI r0 9 2 (q := (RX9, TX9, 11)) dX9_numberKind_13 rfl hk1 (Nat.le_of_ble_eq_true rfl) rfl lf_X9_29 ?_
        obtain ⟨p3, hp3, h⟩ := ao_bind h
        refine an_callVi r0 9 (q := (RX9, TX9, 11)) [.int (M r0 2)] (aX9_byteAt (d - 1) (by omega) r0 (M r0 2) M ρ hp3) dX9_numberKind_16 lc_X9_53 li_X9_byteAt ls_X9_byteAt rfl hk1 rfl rfl (Nat.le_of_ble_eq_true rfl) (ao_hR (by omega) (by decide)) ?_
        obtain ⟨p4, hp4, h⟩ := ao_bind h
        refine an_callSi [.int p3.1] (aX9_isDigit (d - 1) (by omega) p3.1 p3.2 ρ hp4) dX9_numberKind_19 lc_X9_68 lt_X9_isDigit rfl rfl (Nat.le_of_ble_eq_true rfl) (ao_hR (by omega) (by decide)) ?_
        refine ao_if_eq 70 dX9_numberKind_22 (by decide) (fun c5 => ?_) (fun c5 => ?_)
        · replace h := ao_ifT h c5
          exact ih.2.2 r0 p4.2 _ h
        · replace h := ao_ifF h c5
          refine ao_aload_n 0 dX9_numberKind_25 rfl rfl ?_
          refine an_getI r0 9 10 (q := (RX9, TX9, 11)) dX9_numberKind_26 rfl hk1 (Nat.le_of_ble_eq_true rfl) rfl lf_X9_44 ?_
          refine ao_ldc (v := 1000000) dX9_numberKind_29 lk_X9_119 ?_
          refine ao_icmp_gt 57 dX9_numberKind_31 (by decide) (fun c6 => ?_) (fun c6 => ?_)
          · replace h := ao_ifT h c6
            exact ih.2.1 r0 p4.2 _ h
          · replace h := ao_ifF h c6
            refine ao_aload_n 0 dX9_numberKind_34 rfl rfl ?_
            refine ao_aload_n 0 dX9_numberKind_35 rfl rfl ?_
            refine an_getI r0 9 10 (q := (RX9, TX9, 11)) dX9_numberKind_36 rfl hk1 (Nat.le_of_ble_eq_true rfl) rfl lf_X9_44 ?_
            refine ao_bipush (v := 10) dX9_numberKind_39 (by decide) ?_
            refine ao_imul dX9_numberKind_41 ?_
            refine ao_aload_n 0 dX9_numberKind_42 rfl rfl ?_
            refine ao_aload_n 0 dX9_numberKind_43 rfl rfl ?_
            refine an_getI r0 9 2 (q := (RX9, TX9, 11)) dX9_numberKind_44 rfl hk1 (Nat.le_of_ble_eq_true rfl) rfl lf_X9_29 ?_
            obtain ⟨p7, hp7, h⟩ := ao_bind h
            refine an_callVi r0 9 (q := (RX9, TX9, 11)) [.int (p4.2 r0 2)] (aX9_byteAt (d - 1) (by omega) r0 (p4.2 r0 2) p4.2 ρ hp7) dX9_numberKind_47 lc_X9_53 li_X9_byteAt ls_X9_byteAt rfl hk1 rfl rfl (Nat.le_of_ble_eq_true rfl) (ao_hR (by omega) (by decide)) ?_
            refine ao_iadd dX9_numberKind_50 ?_
            refine ao_bipush (v := 48) dX9_numberKind_51 (by decide) ?_
            refine ao_isub dX9_numberKind_53 ?_
            refine an_putI r0 9 10 (q := (RX9, TX9, 11)) dX9_numberKind_54 rfl hk1 (Nat.le_of_ble_eq_true rfl) lf_X9_44 rfl rfl rfl rfl (fun M8 hM8 => ?_)
            replace h := ao_letD h hM8
            exact ih.2.1 r0 M8 _ h
    · intro r0 M y h
      replace h := ao_ifF h (by decide)
      replace h := ao_ifT h rfl
      refine ao_aload_n 0 dX9_numberKind_57 rfl rfl ?_
      refine ao_dup dX9_numberKind_58 rfl ?_
      obtain ⟨hk9, h⟩ := ao_some h
      refine an_getI r0 9 2 (q := (RX9, TX9, 11)) dX9_numberKind_59 rfl hk9 (Nat.le_of_ble_eq_true rfl) rfl lf_X9_29 ?_
      refine ao_iconst (v := 1) dX9_numberKind_62 (by decide) ?_
      refine ao_iadd dX9_numberKind_63 ?_
      refine an_putI r0 9 2 (q := (RX9, TX9, 11)) dX9_numberKind_64 rfl hk9 (Nat.le_of_ble_eq_true rfl) lf_X9_29 rfl rfl rfl rfl (fun M10 hM10 => ?_)
      replace h := ao_letD h hM10
      refine ao_goto 0 dX9_numberKind_67 (by decide) ?_
      exact ih.1 r0 M10 _ h
    · intro r0 M y h
      replace h := ao_ifF h (by decide)
      replace h := ao_ifF h (by decide)
      replace h := ao_ifT h rfl
      refine ao_aload_n 0 dX9_numberKind_70 rfl rfl ?_
      obtain ⟨hk11, h⟩ := ao_some h
      refine an_getI r0 9 10 (q := (RX9, TX9, 11)) dX9_numberKind_71 rfl hk11 (Nat.le_of_ble_eq_true rfl) rfl lf_X9_44 ?_
      refine ao_ldc (v := 1000000) dX9_numberKind_74 lk_X9_119 ?_
      refine ao_icmp_gt 83 dX9_numberKind_76 (by decide) (fun c12 => ?_) (fun c12 => ?_)
      · replace h := ao_ifT h c12
        refine ao_iconst (v := 1) dX9_numberKind_83 (by decide) ?_
        cases h
        exact ao_ireturn dX9_numberKind_84 rfl rfl ⟨rfl, rfl⟩
      · replace h := ao_ifF h c12
        refine ao_iconst (v := 4) dX9_numberKind_79 (by decide) ?_
        refine ao_goto 84 dX9_numberKind_80 (by decide) ?_
        cases h
        exact ao_ireturn dX9_numberKind_84 rfl rfl ⟨rfl, rfl⟩
set_option maxRecDepth 100000 in
set_option maxHeartbeats 4000000 in
theorem aX9_numberKind {Γ : ao_C} (d : Nat) (hd : 1 ≤ d) (n : Nat) (r0 : Nat) (M : ao_M) (ρ : ao_H) {y : Int32 × ao_M} (h : gX9_numberKind n r0 M ρ = some y) : ao_A Γ uX9_numberKind d 0 0 [.ref (Γ.2.2.2 + r0)] (M, ρ) (ao_PI ρ y) := by
  refine ao_of (by decide) (ao_cat1 (Nat.le_of_ble_eq_true rfl)) (Nat.le_of_ble_eq_true rfl) ?_
  show ao_W Γ uX9_numberKind (ao_rm d 0 0) (ao_Q Γ (ao_PI ρ y) 0 0) 0 0 0 [some (.ref (Γ.2.2.2 + r0))] [] (M, ρ)
  exact (wX9_numberKind d hd n).1 r0 M y h

abbrev uX9_equalsKind : ao_Mi := (yX9_equalsKind, cX9_equalsKind, 1, (some .int), [])
def gX9_equalsKind (r0 : Nat) (M : ao_M) (ρ : ao_H) : Option (Int32 × ao_M) :=
  if ρ.2.1 r0 = 19 then
  (gX9_byteAt r0 (M r0 2) M ρ).bind fun p2 =>
  if p2.1 = (61 : Int32) then
    ao_let (ao_u p2.2 r0 2 ((p2.2 r0 2) + (1 : Int32))) fun M4 =>
    some ((23 : Int32), M4)
  else
    some ((22 : Int32), p2.2)
  else none
set_option maxRecDepth 100000 in
set_option maxHeartbeats 4000000 in
theorem aX9_equalsKind {Γ : ao_C} (d : Nat) (hd : 1 ≤ d) (r0 : Nat) (M : ao_M) (ρ : ao_H) {y : Int32 × ao_M} (h : gX9_equalsKind r0 M ρ = some y) : ao_A Γ uX9_equalsKind d 0 0 [.ref (Γ.2.2.2 + r0)] (M, ρ) (ao_PI ρ y) := by
  refine ao_of (by decide) (ao_cat1 (Nat.le_of_ble_eq_true rfl)) (Nat.le_of_ble_eq_true rfl) ?_
  show ao_W Γ uX9_equalsKind (ao_rm d 0 0) (ao_Q Γ (ao_PI ρ y) 0 0) 0 0 0 [some (.ref (Γ.2.2.2 + r0))] [] (M, ρ)
  unfold gX9_equalsKind at h
  refine ao_aload_n 0 dX9_equalsKind_0 rfl rfl ?_
  refine ao_aload_n 0 dX9_equalsKind_1 rfl rfl ?_
  obtain ⟨hk1, h⟩ := ao_some h
  refine an_getI r0 9 2 (q := (RX9, TX9, 11)) dX9_equalsKind_2 rfl hk1 (Nat.le_of_ble_eq_true rfl) rfl lf_X9_29 ?_
  obtain ⟨p2, hp2, h⟩ := ao_bind h
  refine an_callVi r0 9 (q := (RX9, TX9, 11)) [.int (M r0 2)] (aX9_byteAt (d - 1) (by omega) r0 (M r0 2) M ρ hp2) dX9_equalsKind_5 lc_X9_53 li_X9_byteAt ls_X9_byteAt rfl hk1 rfl rfl (Nat.le_of_ble_eq_true rfl) (ao_hR (by omega) (by decide)) ?_
  refine ao_bipush (v := 61) dX9_equalsKind_8 (by decide) ?_
  refine ao_icmp_eq 16 dX9_equalsKind_10 (by decide) (fun c3 => ?_) (fun c3 => ?_)
  · replace h := ao_ifT h c3
    refine ao_aload_n 0 dX9_equalsKind_16 rfl rfl ?_
    refine ao_dup dX9_equalsKind_17 rfl ?_
    refine an_getI r0 9 2 (q := (RX9, TX9, 11)) dX9_equalsKind_18 rfl hk1 (Nat.le_of_ble_eq_true rfl) rfl lf_X9_29 ?_
    refine ao_iconst (v := 1) dX9_equalsKind_21 (by decide) ?_
    refine ao_iadd dX9_equalsKind_22 ?_
    refine an_putI r0 9 2 (q := (RX9, TX9, 11)) dX9_equalsKind_23 rfl hk1 (Nat.le_of_ble_eq_true rfl) lf_X9_29 rfl rfl rfl rfl (fun M4 hM4 => ?_)
    replace h := ao_letD h hM4
    refine ao_bipush (v := 23) dX9_equalsKind_26 (by decide) ?_
    cases h
    exact ao_ireturn dX9_equalsKind_28 rfl rfl ⟨rfl, rfl⟩
  · replace h := ao_ifF h c3
    refine ao_bipush (v := 22) dX9_equalsKind_13 (by decide) ?_
    cases h
    exact ao_ireturn dX9_equalsKind_15 rfl rfl ⟨rfl, rfl⟩
