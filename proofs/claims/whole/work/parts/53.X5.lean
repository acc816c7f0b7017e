abbrev uX5_valueAt : ao_Mi := (yX5_valueAt, cX5_valueAt, 5, (some .int), [])
def fX5_valueAt : Nat → Nat → Nat → Int32 → Int32 → Int32 → Int32 →  ao_M → ao_H → Option (Int32 × ao_M)
  | 0, _, _, _, _, _, _, _, _ => none
  | n + 1, pc, r0, x1, x2, x3, x4, M, ρ =>
    if pc = 0 then
      if x1 < 0 then
        some ((0 : Int32), M)
      else
        if x1 < (26 : Int32) then
          if ρ.2.1 r0 = 15 then
          (ρ.1 r0 5).bind fun j4 =>
          if ρ.2.1 j4 = 0 then
          if ¬ (x1 < 0 ∨ ρ.2.2.1 j4 ≤ x1.toNatClampNeg) then
          ao_let (M j4 x1.toNatClampNeg) fun v7 =>
          fX5_valueAt n 22 r0 x1 x2 v7 (0 : Int32) M ρ
          else none
          else none
          else none
        else
          some ((0 : Int32), M)
    else if pc = 22 then
      if ρ.2.1 r0 = 15 then
      if (M r0 10) < x4 then
        some ((0 : Int32), M)
      else
        if x3 < 0 then
          some ((0 : Int32), M)
        else
          if (M r0 9) ≤ x3 then
            some ((0 : Int32), M)
          else
            (ρ.1 r0 6).bind fun j12 =>
            if ρ.2.1 j12 = 0 then
            if ¬ (x3 < 0 ∨ ρ.2.2.1 j12 ≤ x3.toNatClampNeg) then
            if x2 < (M j12 x3.toNatClampNeg) then
              (ρ.1 r0 8).bind fun j16 =>
              if ρ.2.1 j16 = 0 then
              if ¬ (x3 < 0 ∨ ρ.2.2.1 j16 ≤ x3.toNatClampNeg) then
              ao_let (M j16 x3.toNatClampNeg) fun v19 =>
              ao_let (x4 + (1 : Int32)) fun v20 =>
              fX5_valueAt n 22 r0 x1 x2 v19 v20 M ρ
              else none
              else none
            else
              (ρ.1 r0 7).bind fun j21 =>
              if ρ.2.1 j21 = 0 then
              if ¬ (x3 < 0 ∨ ρ.2.2.1 j21 ≤ x3.toNatClampNeg) then
              some ((M j21 x3.toNatClampNeg), M)
              else none
              else none
            else none
            else none
      else none
    else none
def gX5_valueAt (n : Nat) (r0 : Nat) (x1 : Int32) (x2 : Int32) (M : ao_M) (ρ : ao_H) : Option (Int32 × ao_M) := fX5_valueAt n 0 r0 x1 x2 0 0 M ρ
set_option maxRecDepth 100000 in
set_option maxHeartbeats 4000000 in
theorem wX5_valueAt {Γ : ao_C} {ρ : ao_H} (d : Nat) (hd : 0 ≤ d) : ∀ n : Nat, (∀ (r0 : Nat) (x1 : Int32) (x2 : Int32) (M : ao_M) (y : Int32 × ao_M), fX5_valueAt n 0 r0 x1 x2 0 0 M ρ = some y → ao_W Γ uX5_valueAt (ao_rm d 0 0) (ao_Q Γ (ao_PI ρ y) 0 0) 0 0 0 [some (.ref (Γ.2.2.2 + r0)), some (.int x1), some (.int x2), none, none] [] (M, ρ)) ∧ (∀ (r0 : Nat) (x1 : Int32) (x2 : Int32) (x3 : Int32) (x4 : Int32) (M : ao_M) (y : Int32 × ao_M), fX5_valueAt n 22 r0 x1 x2 x3 x4 M ρ = some y → ao_W Γ uX5_valueAt (ao_rm d 0 0) (ao_Q Γ (ao_PI ρ y) 0 0) 0 0 22 [some (.ref (Γ.2.2.2 + r0)), some (.int x1), some (.int x2), some (.int x3), some (.int x4)] [] (M, ρ)) := by
  intro n
  induction n with
  | zero => exact ⟨fun _ _ _ _ _ h => ao_no h, fun _ _ _ _ _ _ _ h => ao_no h⟩
  | succ n ih =>
    refine ⟨?_, ?_⟩
    · intro r0 x1 x2 M y h
      replace h := ao_ifT h rfl
      refine ao_iload_n 1 dX5_valueAt_0 rfl rfl ?_
      refine ao_if_lt 10 dX5_valueAt_1 (by decide) (fun c1 => ?_) (fun c1 => ?_)
      · replace h := ao_ifT h c1
        refine ao_iconst (v := 0) dX5_valueAt_10 (by decide) ?_
        cases h
        exact ao_ireturn dX5_valueAt_11 rfl rfl ⟨rfl, rfl⟩
      · replace h := ao_ifF h c1
        refine ao_iload_n 1 dX5_valueAt_4 rfl rfl ?_
        refine ao_bipush (v := 26) dX5_valueAt_5 (by decide) ?_
        refine ao_icmp_lt 12 dX5_valueAt_7 (by decide) (fun c2 => ?_) (fun c2 => ?_)
        · replace h := ao_ifT h c2
          refine ao_aload_n 0 dX5_valueAt_12 rfl rfl ?_
          obtain ⟨hk3, h⟩ := ao_some h
          obtain ⟨j4, hj4, h⟩ := ao_bind h
          refine an_getR r0 5 5 (q := (RX5, TX5, 11)) dX5_valueAt_13 rfl hk3 (Nat.le_of_ble_eq_true rfl) rfl lf_X5_24 hj4 ?_
          refine ao_iload_n 1 dX5_valueAt_16 rfl rfl ?_
          obtain ⟨hk5, h⟩ := ao_some h
          obtain ⟨hb6, h⟩ := ao_some h
          refine an_iaload j4 dX5_valueAt_17 hk5 hb6 ?_
          refine an_topi (fun v7 hv7 => ?_)
          replace h := ao_letD h hv7
          refine ao_istore_n 3 (lo' := [some (.ref (Γ.2.2.2 + r0)), some (.int x1), some (.int x2), some (.int v7), none]) dX5_valueAt_18 rfl (Nat.le_of_ble_eq_true rfl) rfl ?_
          refine ao_iconst (v := 0) dX5_valueAt_19 (by decide) ?_
          refine ao_istore 4 (lo' := [some (.ref (Γ.2.2.2 + r0)), some (.int x1), some (.int x2), some (.int v7), some (.int (0 : Int32))]) dX5_valueAt_20 (Nat.le_of_ble_eq_true rfl) rfl ?_
          exact ih.2 r0 x1 x2 v7 (0 : Int32) M _ h
        · replace h := ao_ifF h c2
          refine ao_iconst (v := 0) dX5_valueAt_10 (by decide) ?_
          cases h
          exact ao_ireturn dX5_valueAt_11 rfl rfl ⟨rfl, rfl⟩
    · intro r0 x1 x2 x3 x4 M y h
      replace h := ao_ifF h (by decide)
      replace h := ao_ifT h rfl
      refine ao_iload 4 dX5_valueAt_22 rfl ?_
      refine ao_aload_n 0 dX5_valueAt_24 rfl rfl ?_
      obtain ⟨hk8, h⟩ := ao_some h
      refine an_getI r0 5 10 (q := (RX5, TX5, 11)) dX5_valueAt_25 rfl hk8 (Nat.le_of_ble_eq_true rfl) rfl lf_X5_49 ?_
      refine ao_icmp_gt 73 dX5_valueAt_28 (by decide) (fun c9 => ?_) (fun c9 => ?_)
      · replace h := ao_ifT h c9
        refine ao_iconst (v := 0) dX5_valueAt_73 (by decide) ?_
        cases h
        exact ao_ireturn dX5_valueAt_74 rfl rfl ⟨rfl, rfl⟩
      · replace h := ao_ifF h c9
        refine ao_iload_n 3 dX5_valueAt_31 rfl rfl ?_
        refine ao_if_lt 73 dX5_valueAt_32 (by decide) (fun c10 => ?_) (fun c10 => ?_)
        · replace h := ao_ifT h c10
          refine ao_iconst (v := 0) dX5_valueAt_73 (by decide) ?_
          cases h
          exact ao_ireturn dX5_valueAt_74 rfl rfl ⟨rfl, rfl⟩
        · replace h := ao_ifF h c10
          refine ao_iload_n 3 dX5_valueAt_35 rfl rfl ?_
          refine ao_aload_n 0 dX5_valueAt_36 rfl rfl ?_
          refine an_getI r0 5 9 (q := (RX5, TX5, 11)) dX5_valueAt_37 rfl hk8 (Nat.le_of_ble_eq_true rfl) rfl lf_X5_27 ?_
          refine ao_icmp_ge 73 dX5_valueAt_40 (by decide) (fun c11 => ?_) (fun c11 => ?_)
          · replace h := ao_ifT h c11
            refine ao_iconst (v := 0) dX5_valueAt_73 (by decide) ?_
            cases h
            exact ao_ireturn dX5_valueAt_74 rfl rfl ⟨rfl, rfl⟩
          · replace h := ao_ifF h c11
            refine ao_aload_n 0 dX5_valueAt_43 rfl rfl ?_
            obtain ⟨j12, hj12, h⟩ := ao_bind h
            refine an_getR r0 5 6 (q := (RX5, TX5, 11)) dX5_valueAt_44 rfl hk8 (Nat.le_of_ble_eq_true rfl) rfl lf_X5_31 hj12 ?_
            refine ao_iload_n 3 dX5_valueAt_47 rfl rfl ?_
            obtain ⟨hk13, h⟩ := ao_some h
            obtain ⟨hb14, h⟩ := ao_some h
            refine an_iaload j12 dX5_valueAt_48 hk13 hb14 ?_
            refine ao_iload_n 2 dX5_valueAt_49 rfl rfl ?_
            refine ao_icmp_gt 60 dX5_valueAt_50 (by decide) (fun c15 => ?_) (fun c15 => ?_)
            · replace h := ao_ifT h c15
              refine ao_aload_n 0 dX5_valueAt_60 rfl rfl ?_
              obtain ⟨j16, hj16, h⟩ := ao_bind h
              refine an_getR r0 5 8 (q := (RX5, TX5, 11)) dX5_valueAt_61 rfl hk8 (Nat.le_of_ble_eq_true rfl) rfl lf_X5_37 hj16 ?_
              refine ao_iload_n 3 dX5_valueAt_64 rfl rfl ?_
              obtain ⟨hk17, h⟩ := ao_some h
              obtain ⟨hb18, h⟩ := ao_some h
              refine an_iaload j16 dX5_valueAt_65 hk17 hb18 ?_
              refine an_topi (fun v19 hv19 => ?_)
              replace h := ao_letD h hv19
              refine ao_istore_n 3 (lo' := [some (.ref (Γ.2.2.2 + r0)), some (.int x1), some (.int x2), some (.int v19), some (.int x4)]) dX5_valueAt_66 rfl (Nat.le_of_ble_eq_true rfl) rfl ?_
              obtain ⟨v20, hv20⟩ : ∃ z : Int32, z = x4 + (1 : Int32) := ⟨_, rfl⟩
              replace h := ao_letD h hv20
              refine ao_iinc 4 (v := v20) (lo' := [some (.ref (Γ.2.2.2 + r0)), some (.int x1), some (.int x2), some (.int v19), some (.int v20)]) dX5_valueAt_67 rfl (by rw [hv20]; rfl) (Nat.le_of_ble_eq_true rfl) rfl ?_
              refine ao_goto 22 dX5_valueAt_70 (by decide) ?_
              exact ih.2 r0 x1 x2 v19 v20 M _ h
            · replace h := ao_ifF h c15
              refine ao_aload_n 0 dX5_valueAt_53 rfl rfl ?_
              obtain ⟨j21, hj21, h⟩ := ao_bind h
              refine an_getR r0 5 7 (q := (RX5, TX5, 11)) dX5_valueAt_54 rfl hk8 (Nat.le_of_ble_eq_true rfl) rfl lf_X5_34 hj21 ?_
              refine ao_iload_n 3 dX5_valueAt_57 rfl rfl ?_
              obtain ⟨hk22, h⟩ := ao_some h
              obtain ⟨hb23, h⟩ := ao_some h
              refine an_iaload j21 dX5_valueAt_58 hk22 hb23 ?_
              cases h
              exact ao_ireturn dX5_valueAt_59 rfl rfl ⟨rfl, rfl⟩
set_option maxRecDepth 100000 in
set_option maxHeartbeats 4000000 in
theorem aX5_valueAt {Γ : ao_C} (d : Nat) (hd : 0 ≤ d) (n : Nat) (r0 : Nat) (x1 : Int32) (x2 : Int32) (M : ao_M) (ρ : ao_H) {y : Int32 × ao_M} (h : gX5_valueAt n r0 x1 x2 M ρ = some y) : ao_A Γ uX5_valueAt d 0 0 [.ref (Γ.2.2.2 + r0), .int x1, .int x2] (M, ρ) (ao_PI ρ y) := by
  refine ao_of (by decide) (ao_cat1 (Nat.le_of_ble_eq_true rfl)) (Nat.le_of_ble_eq_true rfl) ?_
  show ao_W Γ uX5_valueAt (ao_rm d 0 0) (ao_Q Γ (ao_PI ρ y) 0 0) 0 0 0 [some (.ref (Γ.2.2.2 + r0)), some (.int x1), some (.int x2), none, none] [] (M, ρ)
  exact (wX5_valueAt d hd n).1 r0 x1 x2 M y h

abbrev uX5_isTakenByOther : ao_Mi := (yX5_isTakenByOther, cX5_isTakenByOther, 3, (some .boolean), [])
def gX5_isTakenByOther (r0 : Nat) (x1 : Int32) (x2 : Int32) (M : ao_M) (ρ : ao_H) : Option (Int32 × ao_M) :=
  if x1 < 0 then
    some ((0 : Int32), M)
  else
    if (26 : Int32) ≤ x1 then
      some ((0 : Int32), M)
    else
      if ρ.2.1 r0 = 15 then
      (ρ.1 r0 2).bind fun j4 =>
      if ρ.2.1 j4 = 0 then
      if ¬ (x1 < 0 ∨ ρ.2.2.1 j4 ≤ x1.toNatClampNeg) then
      if (M j4 x1.toNatClampNeg) = (-1 : Int32) then
        some ((0 : Int32), M)
      else
        if (M j4 x1.toNatClampNeg) = x2 then
          some ((0 : Int32), M)
        else
          some ((1 : Int32), M)
      else none
      else none
      else none
set_option maxRecDepth 100000 in
set_option maxHeartbeats 4000000 in
theorem aX5_isTakenByOther {Γ : ao_C} (d : Nat) (hd : 0 ≤ d) (r0 : Nat) (x1 : Int32) (x2 : Int32) (M : ao_M) (ρ : ao_H) {y : Int32 × ao_M} (h : gX5_isTakenByOther r0 x1 x2 M ρ = some y) : ao_A Γ uX5_isTakenByOther d 0 0 [.ref (Γ.2.2.2 + r0), .int x1, .int x2] (M, ρ) (ao_PI ρ y) := by
  refine ao_of (by decide) (ao_cat1 (Nat.le_of_ble_eq_true rfl)) (Nat.le_of_ble_eq_true rfl) ?_
  show ao_W Γ uX5_isTakenByOther (ao_rm d 0 0) (ao_Q Γ (ao_PI ρ y) 0 0) 0 0 0 [some (.ref (Γ.2.2.2 + r0)), some (.int x1), some (.int x2)] [] (M, ρ)
  unfold gX5_isTakenByOther at h
  refine ao_iload_n 1 dX5_isTakenByOther_0 rfl rfl ?_
  refine ao_if_lt 34 dX5_isTakenByOther_1 (by decide) (fun c1 => ?_) (fun c1 => ?_)
  · replace h := ao_ifT h c1
    refine ao_iconst (v := 0) dX5_isTakenByOther_34 (by decide) ?_
    cases h
    exact ao_ireturn dX5_isTakenByOther_35 rfl rfl ⟨rfl, rfl⟩
  · replace h := ao_ifF h c1
    refine ao_iload_n 1 dX5_isTakenByOther_4 rfl rfl ?_
    refine ao_bipush (v := 26) dX5_isTakenByOther_5 (by decide) ?_
    refine ao_icmp_ge 34 dX5_isTakenByOther_7 (by decide) (fun c2 => ?_) (fun c2 => ?_)
    · replace h := ao_ifT h c2
      refine ao_iconst (v := 0) dX5_isTakenByOther_34 (by decide) ?_
      cases h
      exact ao_ireturn dX5_isTakenByOther_35 rfl rfl ⟨rfl, rfl⟩
    · replace h := ao_ifF h c2
      refine ao_aload_n 0 dX5_isTakenByOther_10 rfl rfl ?_
      obtain ⟨hk3, h⟩ := ao_some h
      obtain ⟨j4, hj4, h⟩ := ao_bind h
      refine an_getR r0 5 2 (q := (RX5, TX5, 11)) dX5_isTakenByOther_11 rfl hk3 (Nat.le_of_ble_eq_true rfl) rfl lf_X5_18 hj4 ?_
      refine ao_iload_n 1 dX5_isTakenByOther_14 rfl rfl ?_
      obtain ⟨hk5, h⟩ := ao_some h
      obtain ⟨hb6, h⟩ := ao_some h
      refine an_iaload j4 dX5_isTakenByOther_15 hk5 hb6 ?_
      refine ao_iconst (v := (-1)) dX5_isTakenByOther_16 (by decide) ?_
      refine ao_icmp_eq 34 dX5_isTakenByOther_17 (by decide) (fun c7 => ?_) (fun c7 => ?_)
      · replace h := ao_ifT h c7
        refine ao_iconst (v := 0) dX5_isTakenByOther_34 (by decide) ?_
        cases h
        exact ao_ireturn dX5_isTakenByOther_35 rfl rfl ⟨rfl, rfl⟩
      · replace h := ao_ifF h c7
        refine ao_aload_n 0 dX5_isTakenByOther_20 rfl rfl ?_
        refine an_getR r0 5 2 (q := (RX5, TX5, 11)) dX5_isTakenByOther_21 rfl hk3 (Nat.le_of_ble_eq_true rfl) rfl lf_X5_18 hj4 ?_
        refine ao_iload_n 1 dX5_isTakenByOther_24 rfl rfl ?_
        refine an_iaload j4 dX5_isTakenByOther_25 hk5 hb6 ?_
        refine ao_iload_n 2 dX5_isTakenByOther_26 rfl rfl ?_
        refine ao_icmp_eq 34 dX5_isTakenByOther_27 (by decide) (fun c8 => ?_) (fun c8 => ?_)
        · replace h := ao_ifT h c8
          refine ao_iconst (v := 0) dX5_isTakenByOther_34 (by decide) ?_
          cases h
          exact ao_ireturn dX5_isTakenByOther_35 rfl rfl ⟨rfl, rfl⟩
        · replace h := ao_ifF h c8
          refine ao_iconst (v := 1) dX5_isTakenByOther_30 (by decide) ?_
          refine ao_goto 35 dX5_isTakenByOther_31 (by decide) ?_
          cases h
          exact ao_ireturn dX5_isTakenByOther_35 rfl rfl ⟨rfl, rfl⟩

abbrev uX5_isTakenBy : ao_Mi := (yX5_isTakenBy, cX5_isTakenBy, 3, (some .boolean), [])
def gX5_isTakenBy (r0 : Nat) (x1 : Int32) (x2 : Int32) (M : ao_M) (ρ : ao_H) : Option (Int32 × ao_M) :=
  if x1 < 0 then
    some ((0 : Int32), M)
  else
    if (26 : Int32) ≤ x1 then
      some ((0 : Int32), M)
    else
      if ρ.2.1 r0 = 15 then
      (ρ.1 r0 2).bind fun j4 =>
      if ρ.2.1 j4 = 0 then
      if ¬ (x1 < 0 ∨ ρ.2.2.1 j4 ≤ x1.toNatClampNeg) then
      if (M j4 x1.toNatClampNeg) = x2 then
        some ((1 : Int32), M)
      else
        some ((0 : Int32), M)
      else none
      else none
      else none
set_option maxRecDepth 100000 in
set_option maxHeartbeats 4000000 in
theorem aX5_isTakenBy {Γ : ao_C} (d : Nat) (hd : 0 ≤ d) (r0 : Nat) (x1 : Int32) (x2 : Int32) (M : ao_M) (ρ : ao_H) {y : Int32 × ao_M} (h : gX5_isTakenBy r0 x1 x2 M ρ = some y) : ao_A Γ uX5_isTakenBy d 0 0 [.ref (Γ.2.2.2 + r0), .int x1, .int x2] (M, ρ) (ao_PI ρ y) := by
  refine ao_of (by decide) (ao_cat1 (Nat.le_of_ble_eq_true rfl)) (Nat.le_of_ble_eq_true rfl) ?_
  show ao_W Γ uX5_isTakenBy (ao_rm d 0 0) (ao_Q Γ (ao_PI ρ y) 0 0) 0 0 0 [some (.ref (Γ.2.2.2 + r0)), some (.int x1), some (.int x2)] [] (M, ρ)
  unfold gX5_isTakenBy at h
  refine ao_iload_n 1 dX5_isTakenBy_0 rfl rfl ?_
  refine ao_if_lt 24 dX5_isTakenBy_1 (by decide) (fun c1 => ?_) (fun c1 => ?_)
  · replace h := ao_ifT h c1
    refine ao_iconst (v := 0) dX5_isTakenBy_24 (by decide) ?_
    cases h
    exact ao_ireturn dX5_isTakenBy_25 rfl rfl ⟨rfl, rfl⟩
  · replace h := ao_ifF h c1
    refine ao_iload_n 1 dX5_isTakenBy_4 rfl rfl ?_
    refine ao_bipush (v := 26) dX5_isTakenBy_5 (by decide) ?_
    refine ao_icmp_ge 24 dX5_isTakenBy_7 (by decide) (fun c2 => ?_) (fun c2 => ?_)
    · replace h := ao_ifT h c2
      refine ao_iconst (v := 0) dX5_isTakenBy_24 (by decide) ?_
      cases h
      exact ao_ireturn dX5_isTakenBy_25 rfl rfl ⟨rfl, rfl⟩
    · replace h := ao_ifF h c2
      refine ao_aload_n 0 dX5_isTakenBy_10 rfl rfl ?_
      obtain ⟨hk3, h⟩ := ao_some h
      obtain ⟨j4, hj4, h⟩ := ao_bind h
      refine an_getR r0 5 2 (q := (RX5, TX5, 11)) dX5_isTakenBy_11 rfl hk3 (Nat.le_of_ble_eq_true rfl) rfl lf_X5_18 hj4 ?_
      refine ao_iload_n 1 dX5_isTakenBy_14 rfl rfl ?_
      obtain ⟨hk5, h⟩ := ao_some h
      obtain ⟨hb6, h⟩ := ao_some h
      refine an_iaload j4 dX5_isTakenBy_15 hk5 hb6 ?_
      refine ao_iload_n 2 dX5_isTakenBy_16 rfl rfl ?_
      refine ao_icmp_ne 24 dX5_isTakenBy_17 (by decide) (fun c7 => ?_) (fun c7 => ?_)
      · replace h := ao_ifF h c7
        refine ao_iconst (v := 0) dX5_isTakenBy_24 (by decide) ?_
        cases h
        exact ao_ireturn dX5_isTakenBy_25 rfl rfl ⟨rfl, rfl⟩
      · replace h := ao_ifT h c7
        refine ao_iconst (v := 1) dX5_isTakenBy_20 (by decide) ?_
        refine ao_goto 25 dX5_isTakenBy_21 (by decide) ?_
        cases h
        exact ao_ireturn dX5_isTakenBy_25 rfl rfl ⟨rfl, rfl⟩

abbrev uX5_howManyTaken : ao_Mi := (yX5_howManyTaken, cX5_howManyTaken, 3, (some .int), [])
def fX5_howManyTaken : Nat → Nat → Nat → Int32 → Int32 →  ao_M → ao_H → Option (Int32 × ao_M)
  | 0, _, _, _, _, _, _ => none
  | n + 1, pc, r0, x1, x2, M, ρ =>
    if pc = 0 then
      fX5_howManyTaken n 4 r0 (0 : Int32) (0 : Int32) M ρ
    else if pc = 4 then
      if (26 : Int32) ≤ x2 then
        some (x1, M)
      else
        if ρ.2.1 r0 = 15 then
        (ρ.1 r0 2).bind fun j3 =>
        if ρ.2.1 j3 = 0 then
        if ¬ (x2 < 0 ∨ ρ.2.2.1 j3 ≤ x2.toNatClampNeg) then
        if (M j3 x2.toNatClampNeg) = (-1 : Int32) then
          fX5_howManyTaken n 23 r0 x1 x2 M ρ
        else
          ao_let (x1 + (1 : Int32)) fun v7 =>
          fX5_howManyTaken n 23 r0 v7 x2 M ρ
        else none
        else none
        else none
    else if pc = 23 then
      ao_let (x2 + (1 : Int32)) fun v8 =>
      fX5_howManyTaken n 4 r0 x1 v8 M ρ
    else none
def gX5_howManyTaken (n : Nat) (r0 : Nat) (M : ao_M) (ρ : ao_H) : Option (Int32 × ao_M) := fX5_howManyTaken n 0 r0 0 0 M ρ
set_option maxRecDepth 100000 in
set_option maxHeartbeats 4000000 in
theorem wX5_howManyTaken {Γ : ao_C} {ρ : ao_H} (d : Nat) (hd : 0 ≤ d) : ∀ n : Nat, (∀ (r0 : Nat) (M : ao_M) (y : Int32 × ao_M), fX5_howManyTaken n 0 r0 0 0 M ρ = some y → ao_W Γ uX5_howManyTaken (ao_rm d 0 0) (ao_Q Γ (ao_PI ρ y) 0 0) 0 0 0 [some (.ref (Γ.2.2.2 + r0)), none, none] [] (M, ρ)) ∧ (∀ (r0 : Nat) (x1 : Int32) (x2 : Int32) (M : ao_M) (y : Int32 × ao_M), fX5_howManyTaken n 4 r0 x1 x2 M ρ = some y → ao_W Γ uX5_howManyTaken (ao_rm d 0 0) (ao_Q Γ (ao_PI ρ y) 0 0) 0 0 4 [some (.ref (Γ.2.2.2 + r0)), some (.int x1), some (.int x2)] [] (M, ρ)) ∧ (∀ (r0 : Nat) (x1 : Int32) (x2 : Int32) (M : ao_M) (y : Int32 × ao_M), fX5_howManyTaken n 23 r0 x1 x2 M ρ = some y → ao_W Γ uX5_howManyTaken (ao_rm d 0 0) (ao_Q Γ (ao_PI ρ y) 0 0) 0 0 23 [some (.ref (Γ.2.2.2 + r0)), some (.int x1), some (.int x2)] [] (M, ρ)) := by
  intro n
  induction n with
  | zero => exact ⟨fun _ _ _ h => ao_no h, fun _ _ _ _ _ h => ao_no h, fun _ _ _ _ _ h => ao_no h⟩
  | succ n ih =>
    refine ⟨?_, ?_, ?_⟩
    · intro r0 M y h
      replace h := ao_ifT h rfl
      refine ao_iconst (v := 0) dX5_howManyTaken_0 (by decide) ?_
      refine ao_istore_n 1 (lo' := [some (.ref (Γ.2.2.2 + r0)), some (.int (0 : Int32)), none]) dX5_howManyTaken_1 rfl (Nat.le_of_ble_eq_true rfl) rfl ?_
      refine ao_iconst (v := 0) dX5_howManyTaken_2 (by decide) ?_
      refine ao_istore_n 2 (lo' := [some (.ref (Γ.2.2.2 + r0)), some (.int (0 : Int32)), some (.int (0 : Int32))]) dX5_howManyTaken_3 rfl (Nat.le_of_ble_eq_true rfl) rfl ?_
      exact ih.2.1 r0 (0 : Int32) (0 : Int32) M _ h
    · intro r0 x1 x2 M y h
      replace h := ao_ifF h (by decide)
      replace h := ao_ifT h rfl
      refine ao_iload_n 2 dX5_howManyTaken_4 rfl rfl ?_
      refine ao_bipush (v := 26) dX5_howManyTaken_5 (by decide) ?_
      refine ao_icmp_ge 29 dX5_howManyTaken_7 (by decide) (fun c1 => ?_) (fun c1 => ?_)
      · replace h := ao_ifT h c1
        refine ao_iload_n 1 dX5_howManyTaken_29 rfl rfl ?_
        cases h
        exact ao_ireturn dX5_howManyTaken_30 rfl rfl ⟨rfl, rfl⟩
      · replace h := ao_ifF h c1
        refine ao_aload_n 0 dX5_howManyTaken_10 rfl rfl ?_
        obtain ⟨hk2, h⟩ := ao_some h
        obtain ⟨j3, hj3, h⟩ := ao_bind h
        refine an_getR r0 5 2 (q := (RX5, TX5, 11)) dX5_howManyTaken_11 rfl hk2 (Nat.le_of_ble_eq_true rfl) rfl lf_X5_18 hj3 ?_
        refine ao_iload_n 2 dX5_howManyTaken_14 rfl rfl ?_
        obtain ⟨hk4, h⟩ := ao_some h
        obtain ⟨hb5, h⟩ := ao_some h
        refine an_iaload j3 dX5_howManyTaken_15 hk4 hb5 ?_
        refine ao_iconst (v := (-1)) dX5_howManyTaken_16 (by decide) ?_
        refine ao_icmp_eq 23 dX5_howManyTaken_17 (by decide) (fun c6 => ?_) (fun c6 => ?_)
        · replace h := ao_ifT h c6
          exact ih.2.2 r0 x1 x2 M _ h
        · replace h := ao_ifF h c6
          obtain ⟨v7, hv7⟩ : ∃ z : Int32, z = x1 + (1 : Int32) := ⟨_, rfl⟩
          replace h := ao_letD h hv7
          refine ao_iinc 1 (v := v7) (lo' := [some (.ref (Γ.2.2.2 + r0)), some (.int v7), some (.int x2)]) dX5_howManyTaken_20 rfl (by rw [hv7]; rfl) (Nat.le_of_ble_eq_true rfl) rfl ?_
          exact ih.2.2 r0 v7 x2 M _ h
    · intro r0 x1 x2 M y h
      replace h := ao_ifF h (by decide)
      replace h := ao_ifF h (by decide)
      replace h := ao_ifT h rfl
      obtain ⟨v8, hv8⟩ : ∃ z : Int32, z = x2 + (1 : Int32) := ⟨_, rfl⟩
      replace h := ao_letD h hv8
      refine ao_iinc 2 (v := v8) (lo' := [some (.ref (Γ.2.2.2 + r0)), some (.int x1), some (.int v8)]) dX5_howManyTaken_23 rfl (by rw [hv8]; rfl) (Nat.le_of_ble_eq_true rfl) rfl ?_
      refine ao_goto 4 dX5_howManyTaken_26 (by decide) ?_
      exact ih.2.1 r0 x1 v8 M _ h
set_option maxRecDepth 100000 in
set_option maxHeartbeats 4000000 in
theorem aX5_howManyTaken {Γ : ao_C} (d : Nat) (hd : 0 ≤ d) (n : Nat) (r0 : Nat) (M : ao_M) (ρ : ao_H) {y : Int32 × ao_M} (h : gX5_howManyTaken n r0 M ρ = some y) : ao_A Γ uX5_howManyTaken d 0 0 [.ref (Γ.2.2.2 + r0)] (M, ρ) (ao_PI ρ y) := by
  refine ao_of (by decide) (ao_cat1 (Nat.le_of_ble_eq_true rfl)) (Nat.le_of_ble_eq_true rfl) ?_
  show ao_W Γ uX5_howManyTaken (ao_rm d 0 0) (ao_Q Γ (ao_PI ρ y) 0 0) 0 0 0 [some (.ref (Γ.2.2.2 + r0)), none, none] [] (M, ρ)
  exact (wX5_howManyTaken d hd n).1 r0 M y h
