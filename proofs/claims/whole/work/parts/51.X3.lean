abbrev uX3_forgetReads : ao_Mi := (yX3_forgetReads, cX3_forgetReads, 1, none, [])
def gX3_forgetReads (r0 : Nat) (M : ao_M) (ρ : ao_H) : Option (ao_M) :=
  if ρ.2.1 r0 = 13 then
  ao_let (ao_u M r0 3 (0 : Int32)) fun M2 =>
  ao_let (ao_u M2 r0 4 (0 : Int32)) fun M3 =>
  some M3
  else none
set_option maxRecDepth 100000 in
set_option maxHeartbeats 4000000 in
theorem aX3_forgetReads {Γ : ao_C} (d : Nat) (hd : 0 ≤ d) (r0 : Nat) (M : ao_M) (ρ : ao_H) {y : ao_M} (h : gX3_forgetReads r0 M ρ = some y) : ao_A Γ uX3_forgetReads d 0 0 [.ref (Γ.2.2.2 + r0)] (M, ρ) (ao_PV ρ y) := by
  refine ao_of (by decide) (ao_cat1 (Nat.le_of_ble_eq_true rfl)) (Nat.le_of_ble_eq_true rfl) ?_
  show ao_W Γ uX3_forgetReads (ao_rm d 0 0) (ao_Q Γ (ao_PV ρ y) 0 0) 0 0 0 [some (.ref (Γ.2.2.2 + r0))] [] (M, ρ)
  unfold gX3_forgetReads at h
  refine ao_aload_n 0 dX3_forgetReads_0 rfl rfl ?_
  refine ao_iconst (v := 0) dX3_forgetReads_1 (by decide) ?_
  obtain ⟨hk1, h⟩ := ao_some h
  refine an_putI r0 3 3 (q := (RX3, TX3, 12)) dX3_forgetReads_2 rfl hk1 (Nat.le_of_ble_eq_true rfl) lf_X3_27 rfl rfl rfl rfl (fun M2 hM2 => ?_)
  replace h := ao_letD h hM2
  refine ao_aload_n 0 dX3_forgetReads_5 rfl rfl ?_
  refine ao_iconst (v := 0) dX3_forgetReads_6 (by decide) ?_
  refine an_putI r0 3 4 (q := (RX3, TX3, 12)) dX3_forgetReads_7 rfl hk1 (Nat.le_of_ble_eq_true rfl) lf_X3_31 rfl rfl rfl rfl (fun M3 hM3 => ?_)
  replace h := ao_letD h hM3
  cases h
  exact ao_return dX3_forgetReads_10 rfl ⟨rfl, rfl⟩

abbrev uX3_forgetWrites : ao_Mi := (yX3_forgetWrites, cX3_forgetWrites, 1, none, [])
def gX3_forgetWrites (r0 : Nat) (M : ao_M) (ρ : ao_H) : Option (ao_M) :=
  if ρ.2.1 r0 = 13 then
  ao_let (ao_u M r0 6 (0 : Int32)) fun M2 =>
  some M2
  else none
set_option maxRecDepth 100000 in
set_option maxHeartbeats 4000000 in
theorem aX3_forgetWrites {Γ : ao_C} (d : Nat) (hd : 0 ≤ d) (r0 : Nat) (M : ao_M) (ρ : ao_H) {y : ao_M} (h : gX3_forgetWrites r0 M ρ = some y) : ao_A Γ uX3_forgetWrites d 0 0 [.ref (Γ.2.2.2 + r0)] (M, ρ) (ao_PV ρ y) := by
  refine ao_of (by decide) (ao_cat1 (Nat.le_of_ble_eq_true rfl)) (Nat.le_of_ble_eq_true rfl) ?_
  show ao_W Γ uX3_forgetWrites (ao_rm d 0 0) (ao_Q Γ (ao_PV ρ y) 0 0) 0 0 0 [some (.ref (Γ.2.2.2 + r0))] [] (M, ρ)
  unfold gX3_forgetWrites at h
  refine ao_aload_n 0 dX3_forgetWrites_0 rfl rfl ?_
  refine ao_iconst (v := 0) dX3_forgetWrites_1 (by decide) ?_
  obtain ⟨hk1, h⟩ := ao_some h
  refine an_putI r0 3 6 (q := (RX3, TX3, 12)) dX3_forgetWrites_2 rfl hk1 (Nat.le_of_ble_eq_true rfl) lf_X3_34 rfl rfl rfl rfl (fun M2 hM2 => ?_)
  replace h := ao_letD h hM2
  cases h
  exact ao_return dX3_forgetWrites_5 rfl ⟨rfl, rfl⟩

abbrev uX3_addRead : ao_Mi := (yX3_addRead, cX3_addRead, 4, none, [])
def gX3_addRead (r0 : Nat) (x1 : Int32) (x2 : Int32) (x3 : Int32) (M : ao_M) (ρ : ao_H) : Option (ao_M) :=
  if x1 < 0 then
    some M
  else
    if (26 : Int32) ≤ x1 then
      some M
    else
      if ρ.2.1 r0 = 13 then
      if (((M r0 4) >>> (x1 &&& 31)) &&& (1 : Int32)) = 0 then
        if (M r0 3) < 0 then
          some M
        else
          if (M r0 3) < (26 : Int32) then
            ao_let (ao_u M r0 4 ((M r0 4) ||| ((1 : Int32) <<< (x1 &&& 31)))) fun M7 =>
            (ρ.1 r0 0).bind fun j8 =>
            if ρ.2.1 j8 = 0 then
            if ¬ ((M7 r0 3) < 0 ∨ ρ.2.2.1 j8 ≤ (M7 r0 3).toNatClampNeg) then
            ao_let (ao_u M7 j8 (M7 r0 3).toNatClampNeg x1) fun M11 =>
            (ρ.1 r0 1).bind fun j12 =>
            if ρ.2.1 j12 = 0 then
            if ¬ ((M11 r0 3) < 0 ∨ ρ.2.2.1 j12 ≤ (M11 r0 3).toNatClampNeg) then
            ao_let (ao_u M11 j12 (M11 r0 3).toNatClampNeg x2) fun M15 =>
            (ρ.1 r0 2).bind fun j16 =>
            if ρ.2.1 j16 = 0 then
            if ¬ ((M15 r0 3) < 0 ∨ ρ.2.2.1 j16 ≤ (M15 r0 3).toNatClampNeg) then
            ao_let (ao_u M15 j16 (M15 r0 3).toNatClampNeg x3) fun M19 =>
            ao_let (ao_u M19 r0 3 ((M19 r0 3) + (1 : Int32))) fun M20 =>
            some M20
            else none
            else none
            else none
            else none
            else none
            else none
          else
            some M
      else
        some M
      else none
set_option maxRecDepth 100000 in
set_option maxHeartbeats 4000000 in
theorem aX3_addRead {Γ : ao_C} (d : Nat) (hd : 0 ≤ d) (r0 : Nat) (x1 : Int32) (x2 : Int32) (x3 : Int32) (M : ao_M) (ρ : ao_H) {y : ao_M} (h : gX3_addRead r0 x1 x2 x3 M ρ = some y) : ao_A Γ uX3_addRead d 0 0 [.ref (Γ.2.2.2 + r0), .int x1, .int x2, .int x3] (M, ρ) (ao_PV ρ y) := by
  refine ao_of (by decide) (ao_cat1 (Nat.le_of_ble_eq_true rfl)) (Nat.le_of_ble_eq_true rfl) ?_
  show ao_W Γ uX3_addRead (ao_rm d 0 0) (ao_Q Γ (ao_PV ρ y) 0 0) 0 0 0 [some (.ref (Γ.2.2.2 + r0)), some (.int x1), some (.int x2), some (.int x3)] [] (M, ρ)
  unfold gX3_addRead at h
  refine ao_iload_n 1 dX3_addRead_0 rfl rfl ?_
  refine ao_if_lt 37 dX3_addRead_1 (by decide) (fun c1 => ?_) (fun c1 => ?_)
  · replace h := ao_ifT h c1
    cases h
    exact ao_return dX3_addRead_37 rfl ⟨rfl, rfl⟩
  · replace h := ao_ifF h c1
    refine ao_iload_n 1 dX3_addRead_4 rfl rfl ?_
    refine ao_bipush (v := 26) dX3_addRead_5 (by decide) ?_
    refine ao_icmp_ge 37 dX3_addRead_7 (by decide) (fun c2 => ?_) (fun c2 => ?_)
    · replace h := ao_ifT h c2
      cases h
      exact ao_return dX3_addRead_37 rfl ⟨rfl, rfl⟩
    · replace h := ao_ifF h c2
      refine ao_aload_n 0 dX3_addRead_10 rfl rfl ?_
      obtain ⟨hk3, h⟩ := ao_some h
      refine an_getI r0 3 4 (q := (RX3, TX3, 12)) dX3_addRead_11 rfl hk3 (Nat.le_of_ble_eq_true rfl) rfl lf_X3_31 ?_
      refine ao_iload_n 1 dX3_addRead_14 rfl rfl ?_
      refine ao_ishr dX3_addRead_15 ?_
      refine ao_iconst (v := 1) dX3_addRead_16 (by decide) ?_
      refine ao_iand dX3_addRead_17 ?_
      refine ao_if_ne 37 dX3_addRead_18 (by decide) (fun c4 => ?_) (fun c4 => ?_)
      · replace h := ao_ifF h c4
        cases h
        exact ao_return dX3_addRead_37 rfl ⟨rfl, rfl⟩
      · replace h := ao_ifT h c4
        refine ao_aload_n 0 dX3_addRead_21 rfl rfl ?_
        refine an_getI r0 3 3 (q := (RX3, TX3, 12)) dX3_addRead_22 rfl hk3 (Nat.le_of_ble_eq_true rfl) rfl lf_X3_27 ?_
        refine ao_if_lt 37 dX3_addRead_25 (by decide) (fun c5 => ?_) (fun c5 => ?_)
        · replace h := ao_ifT h c5
          cases h
          exact ao_return dX3_addRead_37 rfl ⟨rfl, rfl⟩
        · replace h := ao_ifF h c5
          refine ao_aload_n 0 dX3_addRead_28 rfl rfl ?_
          refine an_getI r0 3 3 (q := (RX3, TX3, 12)) dX3_addRead_29 rfl hk3 (Nat.le_of_ble_eq_true rfl) rfl lf_X3_27 ?_
          refine ao_bipush (v := 26) dX3_addRead_32 (by decide) ?_
          refine ao_icmp_lt 38 dX3_addRead_34 (by decide) (fun c6 => ?_) (fun c6 => ?_)
          · replace h := ao_ifT h c6
            refine ao_aload_n 0 dX3_addRead_38 rfl rfl ?_
            refine ao_dup dX3_addRead_39 rfl ?_
            refine an_getI r0 3 4 (q := (RX3, TX3, 12)) dX3_addRead_40 rfl hk3 (Nat.le_of_ble_eq_true rfl) rfl lf_X3_31 ?_
            refine ao_iconst (v := 1) dX3_addRead_43 (by decide) ?_
            refine ao_iload_n 1 dX3_addRead_44 rfl rfl ?_
            refine ao_ishl dX3_addRead_45 ?_
            refine ao_ior dX3_addRead_46 ?_
            refine an_putI r0 3 4 (q := (RX3, TX3, 12)) dX3_addRead_47 rfl hk3 (Nat.le_of_ble_eq_true rfl) lf_X3_31 rfl rfl rfl rfl (fun M7 hM7 => ?_)
            replace h := ao_letD h hM7
            refine ao_aload_n 0 dX3_addRead_50 rfl rfl ?_
            obtain ⟨j8, hj8, h⟩ := ao_bind h
            refine an_getR r0 3 0 (q := (RX3, TX3, 12)) dX3_addRead_51 rfl hk3 (Nat.le_of_ble_eq_true rfl) rfl lf_X3_9 hj8 ?_
            refine ao_aload_n 0 dX3_addRead_54 rfl rfl ?_
            refine an_getI r0 3 3 (q := (RX3, TX3, 12)) dX3_addRead_55 rfl hk3 (Nat.le_of_ble_eq_true rfl) rfl lf_X3_27 ?_
            refine ao_iload_n 1 dX3_addRead_58 rfl rfl ?_
            obtain ⟨hk9, h⟩ := ao_some h
            obtain ⟨hb10, h⟩ := ao_some h
            refine an_iastore j8 dX3_addRead_59 hk9 hb10 (fun M11 hM11 => ?_)
            replace h := ao_letD h hM11
            refine ao_aload_n 0 dX3_addRead_60 rfl rfl ?_
            obtain ⟨j12, hj12, h⟩ := ao_bind h
            refine an_getR r0 3 1 (q := (RX3, TX3, 12)) dX3_addRead_61 rfl hk3 (Nat.le_of_ble_eq_true rfl) rfl lf_X3_15 hj12 ?_
            refine ao_aload_n 0 dX3_addRead_64 rfl rfl ?_
            refine an_getI r0 3 3 (q := (RX3, TX3, 12)) dX3_addRead_65 rfl hk3 (Nat.le_of_ble_eq_true rfl) rfl lf_X3_27 ?_
            refine ao_iload_n 2 dX3_addRead_68 rfl rfl ?_
            obtain ⟨hk13, h⟩ := ao_some h
            obtain ⟨hb14, h⟩ := ao_some h
            refine an_iastore j12 dX3_addRead_69 hk13 hb14 (fun M15 hM15 => ?_)
            replace h := ao_letD h hM15
            refine ao_aload_n 0 dX3_addRead_70 rfl rfl ?_
            obtain ⟨j16, hj16, h⟩ := ao_bind h
            refine an_getR r0 3 2 (q := (RX3, TX3, 12)) dX3_addRead_71 rfl hk3 (Nat.le_of_ble_eq_true rfl) rfl lf_X3_18 hj16 ?_
            refine ao_aload_n 0 dX3_addRead_74 rfl rfl ?_
            refine an_getI r0 3 3 (q := (RX3, TX3, 12)) dX3_addRead_75 rfl hk3 (Nat.le_of_ble_eq_true rfl) rfl lf_X3_27 ?_
            refine ao_iload_n 3 dX3_addRead_78 rfl rfl ?_
            obtain ⟨hk17, h⟩ := ao_some h
            obtain ⟨hb18, h⟩ := ao_some h
            refine an_iastore j16 dX3_addRead_79 hk17 hb18 (fun M19 hM19 => ?_)
            replace h := ao_letD h hM19
            refine ao_aload_n 0 dX3_addRead_80 rfl rfl ?_
            refine ao_dup dX3_addRead_81 rfl ?_
            refine an_getI r0 3 3 (q := (RX3, TX3, 12)) dX3_addRead_82 rfl hk3 (Nat.le_of_ble_eq_true rfl) rfl lf_X3_27 ?_
            refine ao_iconst (v := 1) dX3_addRead_85 (by decide) ?_
            refine ao_iadd dX3_addRead_86 ?_
            refine an_putI r0 3 3 (q := (RX3, TX3, 12)) dX3_addRead_87 rfl hk3 (Nat.le_of_ble_eq_true rfl) lf_X3_27 rfl rfl rfl rfl (fun M20 hM20 => ?_)
            replace h := ao_letD h hM20
            cases h
            exact ao_return dX3_addRead_90 rfl ⟨rfl, rfl⟩
          · replace h := ao_ifF h c6
            cases h
            exact ao_return dX3_addRead_37 rfl ⟨rfl, rfl⟩

abbrev uX3_takeReadsOf : ao_Mi := (yX3_takeReadsOf, cX3_takeReadsOf, 3, none, [])
def fX3_takeReadsOf : Nat → Nat → Nat → Nat → Int32 →  ao_M → ao_H → Option (ao_M)
  | 0, _, _, _, _, _, _ => none
  | n + 1, pc, r0, r1, x2, M, ρ =>
    if pc = 0 then
      fX3_takeReadsOf n 2 r0 r1 (0 : Int32) M ρ
    else if pc = 2 then
      if ρ.2.1 r1 = 13 then
      if (M r1 3) ≤ x2 then
        fX3_takeReadsOf n 44 r0 r1 x2 M ρ
      else
        if (26 : Int32) ≤ x2 then
          fX3_takeReadsOf n 44 r0 r1 x2 M ρ
        else
          (ρ.1 r1 0).bind fun j4 =>
          if ρ.2.1 j4 = 0 then
          if ¬ (x2 < 0 ∨ ρ.2.2.1 j4 ≤ x2.toNatClampNeg) then
          (ρ.1 r1 1).bind fun j7 =>
          if ρ.2.1 j7 = 0 then
          if ¬ (x2 < 0 ∨ ρ.2.2.1 j7 ≤ x2.toNatClampNeg) then
          (ρ.1 r1 2).bind fun j10 =>
          if ρ.2.1 j10 = 0 then
          if ¬ (x2 < 0 ∨ ρ.2.2.1 j10 ≤ x2.toNatClampNeg) then
          if ρ.2.1 r0 = 13 then
          (gX3_addRead r0 (M j4 x2.toNatClampNeg) (M j7 x2.toNatClampNeg) (M j10 x2.toNatClampNeg) M ρ).bind fun p14 =>
          ao_let (x2 + (1 : Int32)) fun v15 =>
          fX3_takeReadsOf n 2 r0 r1 v15 p14 ρ
          else none
          else none
          else none
          else none
          else none
          else none
          else none
      else none
    else if pc = 44 then
      if ρ.2.1 r1 = 13 then
      (gX3_forgetReads r1 M ρ).bind fun p17 =>
      some p17
      else none
    else none
def gX3_takeReadsOf (n : Nat) (r0 : Nat) (r1 : Nat) (M : ao_M) (ρ : ao_H) : Option (ao_M) := fX3_takeReadsOf n 0 r0 r1 0 M ρ
set_option maxRecDepth 100000 in
set_option maxHeartbeats 4000000 in
theorem wX3_takeReadsOf {Γ : ao_C} {ρ : ao_H} (d : Nat) (hd : 1 ≤ d) : ∀ n : Nat, (∀ (r0 : Nat) (r1 : Nat) (M : ao_M) (y : ao_M), fX3_takeReadsOf n 0 r0 r1 0 M ρ = some y → ao_W Γ uX3_takeReadsOf (ao_rm d 0 0) (ao_Q Γ (ao_PV ρ y) 0 0) 0 0 0 [some (.ref (Γ.2.2.2 + r0)), some (.ref (Γ.2.2.2 + r1)), none] [] (M, ρ)) ∧ (∀ (r0 : Nat) (r1 : Nat) (x2 : Int32) (M : ao_M) (y : ao_M), fX3_takeReadsOf n 2 r0 r1 x2 M ρ = some y → ao_W Γ uX3_takeReadsOf (ao_rm d 0 0) (ao_Q Γ (ao_PV ρ y) 0 0) 0 0 2 [some (.ref (Γ.2.2.2 + r0)), some (.ref (Γ.2.2.2 + r1)), some (.int x2)] [] (M, ρ)) ∧ (∀ (r0 : Nat) (r1 : Nat) (x2 : Int32) (M : ao_M) (y : ao_M), fX3_takeReadsOf n 44 r0 r1 x2 M ρ = some y → ao_W Γ uX3_takeReadsOf (ao_rm d 0 0) (ao_Q Γ (ao_PV ρ y) 0 0) 0 0 44 [some (.ref (Γ.2.2.2 + r0)), some (.ref (Γ.2.2.2 + r1)), some (.int x2)] [] (M, ρ)) := by
  intro n
  induction n with
  | zero => exact ⟨fun _ _ _ _ h => ao_no h, fun _ _ _ _ _ h => ao_no h, fun _ _ _ _ _ h => ao_no h⟩
  | succ n ih =>
    refine ⟨?_, ?_, ?_⟩
    · intro r0 r1 M y h
      replace h := ao_ifT h rfl
      refine ao_iconst (v := 0) dX3_takeReadsOf_0 (by decide) ?_
      refine ao_istore_n 2 (lo' := [some (.ref (Γ.2.2.2 + r0)), some (.ref (Γ.2.2.2 + r1)), some (.int (0 : Int32))]) dX3_takeReadsOf_1 rfl (Nat.le_of_ble_eq_true rfl) rfl ?_
      exact ih.2.1 r0 r1 (0 : Int32) M _ h
    · intro r0 r1 x2 M y h
      replace h := ao_ifF h (by decide)
      replace h := ao_ifT h rfl
      refine ao_iload_n 2 dX3_takeReadsOf_2 rfl rfl ?_
      refine ao_aload_n 1 dX3_takeReadsOf_3 rfl rfl ?_
      obtain ⟨hk1, h⟩ := ao_some h
      refine an_getI r1 3 3 (q := (RX3, TX3, 12)) dX3_takeReadsOf_4 rfl hk1 (Nat.le_of_ble_eq_true rfl) rfl lf_X3_27 ?_
      refine ao_icmp_ge 44 dX3_takeReadsOf_7 (by decide) (fun c2 => ?_) (fun c2 => ?_)
      · replace h := ao_ifT h c2
        exact ih.2.2 r0 r1 x2 M _ h
      · replace h := ao_ifF h c2
        refine ao_iload_n 2 dX3_takeReadsOf_10 rfl rfl ?_
        refine ao_bipush (v := 26) dX3_takeReadsOf_11 (by decide) ?_
        refine ao_icmp_ge 44 dX3_takeReadsOf_13 (by decide) (fun c3 => ?_) (fun c3 => ?_)
        · replace h := ao_ifT h c3
          exact ih.2.2 r0 r1 x2 M _ h
        · replace h := ao_ifF h c3
          refine ao_aload_n 0 dX3_takeReadsOf_16 rfl rfl ?_
          refine ao_aload_n 1 dX3_takeReadsOf_17 rfl rfl ?_
          obtain ⟨j4, hj4, h⟩ := ao_bind h
          refine an_getR r1 3 0 (q := (RX3, TX3, 12)) dX3_takeReadsOf_18 rfl hk1 (Nat.le_of_ble_eq_true rfl) rfl lf_X3_9 hj4 ?_
          refine ao_iload_n 2 dX3_takeReadsOf_21 rfl rfl ?_
          obtain ⟨hk5, h⟩ := ao_some h
          obtain ⟨hb6, h⟩ := ao_some h
          refine an_iaload j4 dX3_takeReadsOf_22 hk5 hb6 ?_
          refine ao_aload_n 1 dX3_takeReadsOf_23 rfl rfl ?_
          obtain ⟨j7, hj7, h⟩ := ao_bind h
          refine an_getR r1 3 1 (q := (RX3, TX3, 12)) dX3_takeReadsOf_24 rfl hk1 (Nat.le_of_ble_eq_true rfl) rfl lf_X3_15 hj7 ?_
          refine ao_iload_n 2 dX3_takeReadsOf_27 rfl rfl ?_
          obtain ⟨hk8, h⟩ := ao_some h
          obtain ⟨hb9, h⟩ := ao_some h
          refine an_iaload j7 dX3_takeReadsOf_28 hk8 hb9 ?_
          refine ao_aload_n 1 dX3_takeReadsOf_29 rfl rfl ?_
          obtain ⟨j10, hj10, h⟩ := ao_bind h
          refine an_getR r1 3 2 (q := (RX3, TX3, 12)) dX3_takeReadsOf_30 rfl hk1 (Nat.le_of_ble_eq_true rfl) rfl lf_X3_18 hj10 ?_
          refine ao_iload_n 2 dX3_takeReadsOf_33 rfl rfl ?_
          obtain ⟨hk11, h⟩ := ao_some h
          obtain ⟨hb12, h⟩ := ao_some h
          refine an_iaload j10 dX3_takeReadsOf_34 hk11 hb12 ?_
          obtain ⟨hk13, h⟩ := ao_some h
          obtain ⟨p14, hp14, h⟩ := ao_bind h
          refine an_callVv r0 3 (q := (RX3, TX3, 12)) [.int (M j4 x2.toNatClampNeg), .int (M j7 x2.toNatClampNeg), .int (M j10 x2.toNatClampNeg)] (aX3_addRead (d - 1) (by omega) r0 (M j4 x2.toNatClampNeg) (M j7 x2.toNatClampNeg) (M j10 x2.toNatClampNeg) M ρ hp14) dX3_takeReadsOf_35 lc_X3_37 li_X3_addRead ls_X3_addRead rfl hk13 rfl rfl (Nat.le_of_ble_eq_true rfl) (ao_hR (by omega) (by decide)) ?_
          obtain ⟨v15, hv15⟩ : ∃ z : Int32, z = x2 + (1 : Int32) := ⟨_, rfl⟩
          replace h := ao_letD h hv15
          refine ao_iinc 2 (v := v15) (lo' := [some (.ref (Γ.2.2.2 + r0)), some (.ref (Γ.2.2.2 + r1)), some (.int v15)]) dX3_takeReadsOf_38 rfl (by rw [hv15]; rfl) (Nat.le_of_ble_eq_true rfl) rfl ?_
          refine ao_goto 2 dX3_takeReadsOf_41 (by decide) ?_
          exact ih.2.1 r0 r1 v15 p14 _ h
    · intro r0 r1 x2 M y h
      replace h := ao_ifF h (by decide)
      replace h := ao_ifF h (by decide)
      replace h := ao_ifT h rfl
      refine ao_aload_n 1 dX3_takeReadsOf_44 rfl rfl ?_
      obtain ⟨hk16, h⟩ := ao_some h
      obtain ⟨p17, hp17, h⟩ := ao_bind h
      refine an_callVv r1 3 (q := (RX3, TX3, 12)) [] (aX3_forgetReads (d - 1) (by omega) r1 M ρ hp17) dX3_takeReadsOf_45 lc_X3_41 li_X3_forgetReads ls_X3_forgetReads rfl hk16 rfl rfl (Nat.le_of_ble_eq_true rfl) (ao_hR (by omega) (by decide)) ?_
      cases h
      exact ao_return dX3_takeReadsOf_48 rfl ⟨rfl, rfl⟩
set_option maxRecDepth 100000 in
set_option maxHeartbeats 4000000 in
theorem aX3_takeReadsOf {Γ : ao_C} (d : Nat) (hd : 1 ≤ d) (n : Nat) (r0 : Nat) (r1 : Nat) (M : ao_M) (ρ : ao_H) {y : ao_M} (h : gX3_takeReadsOf n r0 r1 M ρ = some y) : ao_A Γ uX3_takeReadsOf d 0 0 [.ref (Γ.2.2.2 + r0), .ref (Γ.2.2.2 + r1)] (M, ρ) (ao_PV ρ y) := by
  refine ao_of (by decide) (ao_cat1 (Nat.le_of_ble_eq_true rfl)) (Nat.le_of_ble_eq_true rfl) ?_
  show ao_W Γ uX3_takeReadsOf (ao_rm d 0 0) (ao_Q Γ (ao_PV ρ y) 0 0) 0 0 0 [some (.ref (Γ.2.2.2 + r0)), some (.ref (Γ.2.2.2 + r1)), none] [] (M, ρ)
  exact (wX3_takeReadsOf d hd n).1 r0 r1 M y h

abbrev uX3_wrote : ao_Mi := (yX3_wrote, cX3_wrote, 2, (some .boolean), [])
def gX3_wrote (r0 : Nat) (x1 : Int32) (M : ao_M) (ρ : ao_H) : Option (Int32 × ao_M) :=
  if x1 < 0 then
    some ((0 : Int32), M)
  else
    if (26 : Int32) ≤ x1 then
      some ((0 : Int32), M)
    else
      if ρ.2.1 r0 = 13 then
      if (((M r0 6) >>> (x1 &&& 31)) &&& (1 : Int32)) = 0 then
        some ((0 : Int32), M)
      else
        some ((1 : Int32), M)
      else none
set_option maxRecDepth 100000 in
set_option maxHeartbeats 4000000 in
theorem aX3_wrote {Γ : ao_C} (d : Nat) (hd : 0 ≤ d) (r0 : Nat) (x1 : Int32) (M : ao_M) (ρ : ao_H) {y : Int32 × ao_M} (h : gX3_wrote r0 x1 M ρ = some y) : ao_A Γ uX3_wrote d 0 0 [.ref (Γ.2.2.2 + r0), .int x1] (M, ρ) (ao_PI ρ y) := by
  refine ao_of (by decide) (ao_cat1 (Nat.le_of_ble_eq_true rfl)) (Nat.le_of_ble_eq_true rfl) ?_
  show ao_W Γ uX3_wrote (ao_rm d 0 0) (ao_Q Γ (ao_PI ρ y) 0 0) 0 0 0 [some (.ref (Γ.2.2.2 + r0)), some (.int x1)] [] (M, ρ)
  unfold gX3_wrote at h
  refine ao_iload_n 1 dX3_wrote_0 rfl rfl ?_
  refine ao_if_lt 25 dX3_wrote_1 (by decide) (fun c1 => ?_) (fun c1 => ?_)
  · replace h := ao_ifT h c1
    refine ao_iconst (v := 0) dX3_wrote_25 (by decide) ?_
    cases h
    exact ao_ireturn dX3_wrote_26 rfl rfl ⟨rfl, rfl⟩
  · replace h := ao_ifF h c1
    refine ao_iload_n 1 dX3_wrote_4 rfl rfl ?_
    refine ao_bipush (v := 26) dX3_wrote_5 (by decide) ?_
    refine ao_icmp_ge 25 dX3_wrote_7 (by decide) (fun c2 => ?_) (fun c2 => ?_)
    · replace h := ao_ifT h c2
      refine ao_iconst (v := 0) dX3_wrote_25 (by decide) ?_
      cases h
      exact ao_ireturn dX3_wrote_26 rfl rfl ⟨rfl, rfl⟩
    · replace h := ao_ifF h c2
      refine ao_aload_n 0 dX3_wrote_10 rfl rfl ?_
      obtain ⟨hk3, h⟩ := ao_some h
      refine an_getI r0 3 6 (q := (RX3, TX3, 12)) dX3_wrote_11 rfl hk3 (Nat.le_of_ble_eq_true rfl) rfl lf_X3_34 ?_
      refine ao_iload_n 1 dX3_wrote_14 rfl rfl ?_
      refine ao_ishr dX3_wrote_15 ?_
      refine ao_iconst (v := 1) dX3_wrote_16 (by decide) ?_
      refine ao_iand dX3_wrote_17 ?_
      refine ao_if_eq 25 dX3_wrote_18 (by decide) (fun c4 => ?_) (fun c4 => ?_)
      · replace h := ao_ifT h c4
        refine ao_iconst (v := 0) dX3_wrote_25 (by decide) ?_
        cases h
        exact ao_ireturn dX3_wrote_26 rfl rfl ⟨rfl, rfl⟩
      · replace h := ao_ifF h c4
        refine ao_iconst (v := 1) dX3_wrote_21 (by decide) ?_
        refine ao_goto 26 dX3_wrote_22 (by decide) ?_
        cases h
        exact ao_ireturn dX3_wrote_26 rfl rfl ⟨rfl, rfl⟩

abbrev uX3_addWrite : ao_Mi := (yX3_addWrite, cX3_addWrite, 3, none, [])
def gX3_addWrite (r0 : Nat) (x1 : Int32) (x2 : Int32) (M : ao_M) (ρ : ao_H) : Option (ao_M) :=
  if x1 < 0 then
    some M
  else
    if (26 : Int32) ≤ x1 then
      some M
    else
      if ρ.2.1 r0 = 13 then
      ao_let (ao_u M r0 6 ((M r0 6) ||| ((1 : Int32) <<< (x1 &&& 31)))) fun M4 =>
      (ρ.1 r0 5).bind fun j5 =>
      if ρ.2.1 j5 = 0 then
      if ¬ (x1 < 0 ∨ ρ.2.2.1 j5 ≤ x1.toNatClampNeg) then
      ao_let (ao_u M4 j5 x1.toNatClampNeg x2) fun M8 =>
      some M8
      else none
      else none
      else none
set_option maxRecDepth 100000 in
set_option maxHeartbeats 4000000 in
theorem aX3_addWrite {Γ : ao_C} (d : Nat) (hd : 0 ≤ d) (r0 : Nat) (x1 : Int32) (x2 : Int32) (M : ao_M) (ρ : ao_H) {y : ao_M} (h : gX3_addWrite r0 x1 x2 M ρ = some y) : ao_A Γ uX3_addWrite d 0 0 [.ref (Γ.2.2.2 + r0), .int x1, .int x2] (M, ρ) (ao_PV ρ y) := by
  refine ao_of (by decide) (ao_cat1 (Nat.le_of_ble_eq_true rfl)) (Nat.le_of_ble_eq_true rfl) ?_
  show ao_W Γ uX3_addWrite (ao_rm d 0 0) (ao_Q Γ (ao_PV ρ y) 0 0) 0 0 0 [some (.ref (Γ.2.2.2 + r0)), some (.int x1), some (.int x2)] [] (M, ρ)
  unfold gX3_addWrite at h
  refine ao_iload_n 1 dX3_addWrite_0 rfl rfl ?_
  refine ao_if_lt 29 dX3_addWrite_1 (by decide) (fun c1 => ?_) (fun c1 => ?_)
  · replace h := ao_ifT h c1
    cases h
    exact ao_return dX3_addWrite_29 rfl ⟨rfl, rfl⟩
  · replace h := ao_ifF h c1
    refine ao_iload_n 1 dX3_addWrite_4 rfl rfl ?_
    refine ao_bipush (v := 26) dX3_addWrite_5 (by decide) ?_
    refine ao_icmp_ge 29 dX3_addWrite_7 (by decide) (fun c2 => ?_) (fun c2 => ?_)
    · replace h := ao_ifT h c2
      cases h
      exact ao_return dX3_addWrite_29 rfl ⟨rfl, rfl⟩
    · replace h := ao_ifF h c2
      refine ao_aload_n 0 dX3_addWrite_10 rfl rfl ?_
      refine ao_dup dX3_addWrite_11 rfl ?_
      obtain ⟨hk3, h⟩ := ao_some h
      refine an_getI r0 3 6 (q := (RX3, TX3, 12)) dX3_addWrite_12 rfl hk3 (Nat.le_of_ble_eq_true rfl) rfl lf_X3_34 ?_
      refine ao_iconst (v := 1) dX3_addWrite_15 (by decide) ?_
      refine ao_iload_n 1 dX3_addWrite_16 rfl rfl ?_
      refine ao_ishl dX3_addWrite_17 ?_
      refine ao_ior dX3_addWrite_18 ?_
      refine an_putI r0 3 6 (q := (RX3, TX3, 12)) dX3_addWrite_19 rfl hk3 (Nat.le_of_ble_eq_true rfl) lf_X3_34 rfl rfl rfl rfl (fun M4 hM4 => ?_)
      replace h := ao_letD h hM4
      refine ao_aload_n 0 dX3_addWrite_22 rfl rfl ?_
      obtain ⟨j5, hj5, h⟩ := ao_bind h
      refine an_getR r0 3 5 (q := (RX3, TX3, 12)) dX3_addWrite_23 rfl hk3 (Nat.le_of_ble_eq_true rfl) rfl lf_X3_21 hj5 ?_
      refine ao_iload_n 1 dX3_addWrite_26 rfl rfl ?_
      refine ao_iload_n 2 dX3_addWrite_27 rfl rfl ?_
      obtain ⟨hk6, h⟩ := ao_some h
      obtain ⟨hb7, h⟩ := ao_some h
      refine an_iastore j5 dX3_addWrite_28 hk6 hb7 (fun M8 hM8 => ?_)
      replace h := ao_letD h hM8
      cases h
      exact ao_return dX3_addWrite_29 rfl ⟨rfl, rfl⟩
