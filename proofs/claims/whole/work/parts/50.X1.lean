abbrev uX1_clear : ao_Mi := (yX1_clear, cX1_clear, 1, none, [])
def gX1_clear (r0 : Nat) (M : ao_M) (ρ : ao_H) : Option (ao_M) :=
  if ρ.2.1 r0 = 11 then
  ao_let (ao_u M r0 4 (0 : Int32)) fun M2 =>
  ao_let (ao_u M2 r0 5 (0 : Int32)) fun M3 =>
  some M3
  else none
set_option maxRecDepth 100000 in
set_option maxHeartbeats 4000000 in
theorem aX1_clear {Γ : ao_C} (d : Nat) (hd : 0 ≤ d) (r0 : Nat) (M : ao_M) (ρ : ao_H) {y : ao_M} (h : gX1_clear r0 M ρ = some y) : ao_A Γ uX1_clear d 0 0 [.ref (Γ.2.2.2 + r0)] (M, ρ) (ao_PV ρ y) := by
  refine ao_of (by decide) (ao_cat1 (Nat.le_of_ble_eq_true rfl)) (Nat.le_of_ble_eq_true rfl) ?_
  show ao_W Γ uX1_clear (ao_rm d 0 0) (ao_Q Γ (ao_PV ρ y) 0 0) 0 0 0 [some (.ref (Γ.2.2.2 + r0))] [] (M, ρ)
  unfold gX1_clear at h
  refine ao_aload_n 0 dX1_clear_0 rfl rfl ?_
  refine ao_iconst (v := 0) dX1_clear_1 (by decide) ?_
  obtain ⟨hk1, h⟩ := ao_some h
  refine an_putI r0 1 4 (q := (RX1, TX1, 6)) dX1_clear_2 rfl hk1 (Nat.le_of_ble_eq_true rfl) lf_X1_23 rfl rfl rfl rfl (fun M2 hM2 => ?_)
  replace h := ao_letD h hM2
  refine ao_aload_n 0 dX1_clear_5 rfl rfl ?_
  refine ao_iconst (v := 0) dX1_clear_6 (by decide) ?_
  refine an_putI r0 1 5 (q := (RX1, TX1, 6)) dX1_clear_7 rfl hk1 (Nat.le_of_ble_eq_true rfl) lf_X1_26 rfl rfl rfl rfl (fun M3 hM3 => ?_)
  replace h := ao_letD h hM3
  cases h
  exact ao_return dX1_clear_10 rfl ⟨rfl, rfl⟩

abbrev uX1_add : ao_Mi := (yX1_add, cX1_add, 4, (some .int), [])
def gX1_add (r0 : Nat) (x1 : Int32) (x2 : Int32) (M : ao_M) (ρ : ao_H) : Option (Int32 × ao_M) :=
  if ρ.2.1 r0 = 11 then
  ao_let (M r0 4) fun v2 =>
  if v2 < 0 then
    some (v2, M)
  else
    if (M r0 0) ≤ v2 then
      some (v2, M)
    else
      (ρ.1 r0 1).bind fun j5 =>
      if ρ.2.1 j5 = 0 then
      if ¬ (v2 < 0 ∨ ρ.2.2.1 j5 ≤ v2.toNatClampNeg) then
      ao_let (ao_u M j5 v2.toNatClampNeg x1) fun M8 =>
      (ρ.1 r0 2).bind fun j9 =>
      if ρ.2.1 j9 = 0 then
      if ¬ (v2 < 0 ∨ ρ.2.2.1 j9 ≤ v2.toNatClampNeg) then
      ao_let (ao_u M8 j9 v2.toNatClampNeg x2) fun M12 =>
      (ρ.1 r0 3).bind fun j13 =>
      if ρ.2.1 j13 = 0 then
      if ¬ (v2 < 0 ∨ ρ.2.2.1 j13 ≤ v2.toNatClampNeg) then
      ao_let (ao_u M12 j13 v2.toNatClampNeg (0 : Int32)) fun M16 =>
      ao_let (ao_u M16 r0 4 (v2 + (1 : Int32))) fun M17 =>
      some (v2, M17)
      else none
      else none
      else none
      else none
      else none
      else none
  else none
set_option maxRecDepth 100000 in
set_option maxHeartbeats 4000000 in
theorem aX1_add {Γ : ao_C} (d : Nat) (hd : 0 ≤ d) (r0 : Nat) (x1 : Int32) (x2 : Int32) (M : ao_M) (ρ : ao_H) {y : Int32 × ao_M} (h : gX1_add r0 x1 x2 M ρ = some y) : ao_A Γ uX1_add d 0 0 [.ref (Γ.2.2.2 + r0), .int x1, .int x2] (M, ρ) (ao_PI ρ y) := by
  refine ao_of (by decide) (ao_cat1 (Nat.le_of_ble_eq_true rfl)) (Nat.le_of_ble_eq_true rfl) ?_
  show ao_W Γ uX1_add (ao_rm d 0 0) (ao_Q Γ (ao_PI ρ y) 0 0) 0 0 0 [some (.ref (Γ.2.2.2 + r0)), some (.int x1), some (.int x2), none] [] (M, ρ)
  unfold gX1_add at h
  refine ao_aload_n 0 dX1_add_0 rfl rfl ?_
  obtain ⟨hk1, h⟩ := ao_some h
  refine an_getI r0 1 4 (q := (RX1, TX1, 6)) dX1_add_1 rfl hk1 (Nat.le_of_ble_eq_true rfl) rfl lf_X1_23 ?_
  refine an_topi (fun v2 hv2 => ?_)
  replace h := ao_letD h hv2
  refine ao_istore_n 3 (lo' := [some (.ref (Γ.2.2.2 + r0)), some (.int x1), some (.int x2), some (.int v2)]) dX1_add_4 rfl (Nat.le_of_ble_eq_true rfl) rfl ?_
  refine ao_iload_n 3 dX1_add_5 rfl rfl ?_
  refine ao_if_lt 45 dX1_add_6 (by decide) (fun c3 => ?_) (fun c3 => ?_)
  · replace h := ao_ifT h c3
    refine ao_iload_n 3 dX1_add_45 rfl rfl ?_
    cases h
    exact ao_ireturn dX1_add_46 rfl rfl ⟨rfl, rfl⟩
  · replace h := ao_ifF h c3
    refine ao_iload_n 3 dX1_add_9 rfl rfl ?_
    refine ao_aload_n 0 dX1_add_10 rfl rfl ?_
    refine an_getI r0 1 0 (q := (RX1, TX1, 6)) dX1_add_11 rfl hk1 (Nat.le_of_ble_eq_true rfl) rfl lf_X1_7 ?_
    refine ao_icmp_ge 45 dX1_add_14 (by decide) (fun c4 => ?_) (fun c4 => ?_)
    · replace h := ao_ifT h c4
      refine ao_iload_n 3 dX1_add_45 rfl rfl ?_
      cases h
      exact ao_ireturn dX1_add_46 rfl rfl ⟨rfl, rfl⟩
    · replace h := ao_ifF h c4
      refine ao_aload_n 0 dX1_add_17 rfl rfl ?_
      obtain ⟨j5, hj5, h⟩ := ao_bind h
      refine an_getR r0 1 1 (q := (RX1, TX1, 6)) dX1_add_18 rfl hk1 (Nat.le_of_ble_eq_true rfl) rfl lf_X1_13 hj5 ?_
      refine ao_iload_n 3 dX1_add_21 rfl rfl ?_
      refine ao_iload_n 1 dX1_add_22 rfl rfl ?_
      obtain ⟨hk6, h⟩ := ao_some h
      obtain ⟨hb7, h⟩ := ao_some h
      refine an_iastore j5 dX1_add_23 hk6 hb7 (fun M8 hM8 => ?_)
      replace h := ao_letD h hM8
      refine ao_aload_n 0 dX1_add_24 rfl rfl ?_
      obtain ⟨j9, hj9, h⟩ := ao_bind h
      refine an_getR r0 1 2 (q := (RX1, TX1, 6)) dX1_add_25 rfl hk1 (Nat.le_of_ble_eq_true rfl) rfl lf_X1_17 hj9 ?_
      refine ao_iload_n 3 dX1_add_28 rfl rfl ?_
      refine ao_iload_n 2 dX1_add_29 rfl rfl ?_
      obtain ⟨hk10, h⟩ := ao_some h
      obtain ⟨hb11, h⟩ := ao_some h
      refine an_iastore j9 dX1_add_30 hk10 hb11 (fun M12 hM12 => ?_)
      replace h := ao_letD h hM12
      refine ao_aload_n 0 dX1_add_31 rfl rfl ?_
      obtain ⟨j13, hj13, h⟩ := ao_bind h
      refine an_getR r0 1 3 (q := (RX1, TX1, 6)) dX1_add_32 rfl hk1 (Nat.le_of_ble_eq_true rfl) rfl lf_X1_20 hj13 ?_
      refine ao_iload_n 3 dX1_add_35 rfl rfl ?_
      refine ao_iconst (v := 0) dX1_add_36 (by decide) ?_
      obtain ⟨hk14, h⟩ := ao_some h
      obtain ⟨hb15, h⟩ := ao_some h
      refine an_iastore j13 dX1_add_37 hk14 hb15 (fun M16 hM16 => ?_)
      replace h := ao_letD h hM16
      refine ao_aload_n 0 dX1_add_38 rfl rfl ?_
      refine ao_iload_n 3 dX1_add_39 rfl rfl ?_
      refine ao_iconst (v := 1) dX1_add_40 (by decide) ?_
      refine ao_iadd dX1_add_41 ?_
      refine an_putI r0 1 4 (q := (RX1, TX1, 6)) dX1_add_42 rfl hk1 (Nat.le_of_ble_eq_true rfl) lf_X1_23 rfl rfl rfl rfl (fun M17 hM17 => ?_)
      replace h := ao_letD h hM17
      refine ao_iload_n 3 dX1_add_45 rfl rfl ?_
      cases h
      exact ao_ireturn dX1_add_46 rfl rfl ⟨rfl, rfl⟩

abbrev uX1_setOp : ao_Mi := (yX1_setOp, cX1_setOp, 3, none, [])
def gX1_setOp (r0 : Nat) (x1 : Int32) (x2 : Int32) (M : ao_M) (ρ : ao_H) : Option (ao_M) :=
  if x1 < 0 then
    some M
  else
    if ρ.2.1 r0 = 11 then
    if (M r0 0) ≤ x1 then
      some M
    else
      (ρ.1 r0 1).bind fun j4 =>
      if ρ.2.1 j4 = 0 then
      if ¬ (x1 < 0 ∨ ρ.2.2.1 j4 ≤ x1.toNatClampNeg) then
      ao_let (ao_u M j4 x1.toNatClampNeg x2) fun M7 =>
      some M7
      else none
      else none
    else none
set_option maxRecDepth 100000 in
set_option maxHeartbeats 4000000 in
theorem aX1_setOp {Γ : ao_C} (d : Nat) (hd : 0 ≤ d) (r0 : Nat) (x1 : Int32) (x2 : Int32) (M : ao_M) (ρ : ao_H) {y : ao_M} (h : gX1_setOp r0 x1 x2 M ρ = some y) : ao_A Γ uX1_setOp d 0 0 [.ref (Γ.2.2.2 + r0), .int x1, .int x2] (M, ρ) (ao_PV ρ y) := by
  refine ao_of (by decide) (ao_cat1 (Nat.le_of_ble_eq_true rfl)) (Nat.le_of_ble_eq_true rfl) ?_
  show ao_W Γ uX1_setOp (ao_rm d 0 0) (ao_Q Γ (ao_PV ρ y) 0 0) 0 0 0 [some (.ref (Γ.2.2.2 + r0)), some (.int x1), some (.int x2)] [] (M, ρ)
  unfold gX1_setOp at h
  refine ao_iload_n 1 dX1_setOp_0 rfl rfl ?_
  refine ao_if_lt 19 dX1_setOp_1 (by decide) (fun c1 => ?_) (fun c1 => ?_)
  · replace h := ao_ifT h c1
    cases h
    exact ao_return dX1_setOp_19 rfl ⟨rfl, rfl⟩
  · replace h := ao_ifF h c1
    refine ao_iload_n 1 dX1_setOp_4 rfl rfl ?_
    refine ao_aload_n 0 dX1_setOp_5 rfl rfl ?_
    obtain ⟨hk2, h⟩ := ao_some h
    refine an_getI r0 1 0 (q := (RX1, TX1, 6)) dX1_setOp_6 rfl hk2 (Nat.le_of_ble_eq_true rfl) rfl lf_X1_7 ?_
    refine ao_icmp_ge 19 dX1_setOp_9 (by decide) (fun c3 => ?_) (fun c3 => ?_)
    · replace h := ao_ifT h c3
      cases h
      exact ao_return dX1_setOp_19 rfl ⟨rfl, rfl⟩
    · replace h := ao_ifF h c3
      refine ao_aload_n 0 dX1_setOp_12 rfl rfl ?_
      obtain ⟨j4, hj4, h⟩ := ao_bind h
      refine an_getR r0 1 1 (q := (RX1, TX1, 6)) dX1_setOp_13 rfl hk2 (Nat.le_of_ble_eq_true rfl) rfl lf_X1_13 hj4 ?_
      refine ao_iload_n 1 dX1_setOp_16 rfl rfl ?_
      refine ao_iload_n 2 dX1_setOp_17 rfl rfl ?_
      obtain ⟨hk5, h⟩ := ao_some h
      obtain ⟨hb6, h⟩ := ao_some h
      refine an_iastore j4 dX1_setOp_18 hk5 hb6 (fun M7 hM7 => ?_)
      replace h := ao_letD h hM7
      cases h
      exact ao_return dX1_setOp_19 rfl ⟨rfl, rfl⟩

abbrev uX1_setFirst : ao_Mi := (yX1_setFirst, cX1_setFirst, 3, none, [])
def gX1_setFirst (r0 : Nat) (x1 : Int32) (x2 : Int32) (M : ao_M) (ρ : ao_H) : Option (ao_M) :=
  if x1 < 0 then
    some M
  else
    if ρ.2.1 r0 = 11 then
    if (M r0 0) ≤ x1 then
      some M
    else
      (ρ.1 r0 2).bind fun j4 =>
      if ρ.2.1 j4 = 0 then
      if ¬ (x1 < 0 ∨ ρ.2.2.1 j4 ≤ x1.toNatClampNeg) then
      ao_let (ao_u M j4 x1.toNatClampNeg x2) fun M7 =>
      some M7
      else none
      else none
    else none
set_option maxRecDepth 100000 in
set_option maxHeartbeats 4000000 in
theorem aX1_setFirst {Γ : ao_C} (d : Nat) (hd : 0 ≤ d) (r0 : Nat) (x1 : Int32) (x2 : Int32) (M : ao_M) (ρ : ao_H) {y : ao_M} (h : gX1_setFirst r0 x1 x2 M ρ = some y) : ao_A Γ uX1_setFirst d 0 0 [.ref (Γ.2.2.2 + r0), .int x1, .int x2] (M, ρ) (ao_PV ρ y) := by
  refine ao_of (by decide) (ao_cat1 (Nat.le_of_ble_eq_true rfl)) (Nat.le_of_ble_eq_true rfl) ?_
  show ao_W Γ uX1_setFirst (ao_rm d 0 0) (ao_Q Γ (ao_PV ρ y) 0 0) 0 0 0 [some (.ref (Γ.2.2.2 + r0)), some (.int x1), some (.int x2)] [] (M, ρ)
  unfold gX1_setFirst at h
  refine ao_iload_n 1 dX1_setFirst_0 rfl rfl ?_
  refine ao_if_lt 19 dX1_setFirst_1 (by decide) (fun c1 => ?_) (fun c1 => ?_)
  · replace h := ao_ifT h c1
    cases h
    exact ao_return dX1_setFirst_19 rfl ⟨rfl, rfl⟩
  · replace h := ao_ifF h c1
    refine ao_iload_n 1 dX1_setFirst_4 rfl rfl ?_
    refine ao_aload_n 0 dX1_setFirst_5 rfl rfl ?_
    obtain ⟨hk2, h⟩ := ao_some h
    refine an_getI r0 1 0 (q := (RX1, TX1, 6)) dX1_setFirst_6 rfl hk2 (Nat.le_of_ble_eq_true rfl) rfl lf_X1_7 ?_
    refine ao_icmp_ge 19 dX1_setFirst_9 (by decide) (fun c3 => ?_) (fun c3 => ?_)
    · replace h := ao_ifT h c3
      cases h
      exact ao_return dX1_setFirst_19 rfl ⟨rfl, rfl⟩
    · replace h := ao_ifF h c3
      refine ao_aload_n 0 dX1_setFirst_12 rfl rfl ?_
      obtain ⟨j4, hj4, h⟩ := ao_bind h
      refine an_getR r0 1 2 (q := (RX1, TX1, 6)) dX1_setFirst_13 rfl hk2 (Nat.le_of_ble_eq_true rfl) rfl lf_X1_17 hj4 ?_
      refine ao_iload_n 1 dX1_setFirst_16 rfl rfl ?_
      refine ao_iload_n 2 dX1_setFirst_17 rfl rfl ?_
      obtain ⟨hk5, h⟩ := ao_some h
      obtain ⟨hb6, h⟩ := ao_some h
      refine an_iastore j4 dX1_setFirst_18 hk5 hb6 (fun M7 hM7 => ?_)
      replace h := ao_letD h hM7
      cases h
      exact ao_return dX1_setFirst_19 rfl ⟨rfl, rfl⟩

abbrev uX1_setSecond : ao_Mi := (yX1_setSecond, cX1_setSecond, 3, none, [])
def gX1_setSecond (r0 : Nat) (x1 : Int32) (x2 : Int32) (M : ao_M) (ρ : ao_H) : Option (ao_M) :=
  if x1 < 0 then
    some M
  else
    if ρ.2.1 r0 = 11 then
    if (M r0 0) ≤ x1 then
      some M
    else
      (ρ.1 r0 3).bind fun j4 =>
      if ρ.2.1 j4 = 0 then
      if ¬ (x1 < 0 ∨ ρ.2.2.1 j4 ≤ x1.toNatClampNeg) then
      ao_let (ao_u M j4 x1.toNatClampNeg x2) fun M7 =>
      some M7
      else none
      else none
    else none
set_option maxRecDepth 100000 in
set_option maxHeartbeats 4000000 in
theorem aX1_setSecond {Γ : ao_C} (d : Nat) (hd : 0 ≤ d) (r0 : Nat) (x1 : Int32) (x2 : Int32) (M : ao_M) (ρ : ao_H) {y : ao_M} (h : gX1_setSecond r0 x1 x2 M ρ = some y) : ao_A Γ uX1_setSecond d 0 0 [.ref (Γ.2.2.2 + r0), .int x1, .int x2] (M, ρ) (ao_PV ρ y) := by
  refine ao_of (by decide) (ao_cat1 (Nat.le_of_ble_eq_true rfl)) (Nat.le_of_ble_eq_true rfl) ?_
  show ao_W Γ uX1_setSecond (ao_rm d 0 0) (ao_Q Γ (ao_PV ρ y) 0 0) 0 0 0 [some (.ref (Γ.2.2.2 + r0)), some (.int x1), some (.int x2)] [] (M, ρ)
  unfold gX1_setSecond at h
  refine ao_iload_n 1 dX1_setSecond_0 rfl rfl ?_
  refine ao_if_lt 19 dX1_setSecond_1 (by decide) (fun c1 => ?_) (fun c1 => ?_)
  · replace h := ao_ifT h c1
    cases h
    exact ao_return dX1_setSecond_19 rfl ⟨rfl, rfl⟩
  · replace h := ao_ifF h c1
    refine ao_iload_n 1 dX1_setSecond_4 rfl rfl ?_
    refine ao_aload_n 0 dX1_setSecond_5 rfl rfl ?_
    obtain ⟨hk2, h⟩ := ao_some h
    refine an_getI r0 1 0 (q := (RX1, TX1, 6)) dX1_setSecond_6 rfl hk2 (Nat.le_of_ble_eq_true rfl) rfl lf_X1_7 ?_
    refine ao_icmp_ge 19 dX1_setSecond_9 (by decide) (fun c3 => ?_) (fun c3 => ?_)
    · replace h := ao_ifT h c3
      cases h
      exact ao_return dX1_setSecond_19 rfl ⟨rfl, rfl⟩
    · replace h := ao_ifF h c3
      refine ao_aload_n 0 dX1_setSecond_12 rfl rfl ?_
      obtain ⟨j4, hj4, h⟩ := ao_bind h
      refine an_getR r0 1 3 (q := (RX1, TX1, 6)) dX1_setSecond_13 rfl hk2 (Nat.le_of_ble_eq_true rfl) rfl lf_X1_20 hj4 ?_
      refine ao_iload_n 1 dX1_setSecond_16 rfl rfl ?_
      refine ao_iload_n 2 dX1_setSecond_17 rfl rfl ?_
      obtain ⟨hk5, h⟩ := ao_some h
      obtain ⟨hb6, h⟩ := ao_some h
      refine an_iastore j4 dX1_setSecond_18 hk5 hb6 (fun M7 hM7 => ?_)
      replace h := ao_letD h hM7
      cases h
      exact ao_return dX1_setSecond_19 rfl ⟨rfl, rfl⟩

abbrev uX1_firstAt : ao_Mi := (yX1_firstAt, cX1_firstAt, 2, (some .int), [])
def gX1_firstAt (r0 : Nat) (x1 : Int32) (M : ao_M) (ρ : ao_H) : Option (Int32 × ao_M) :=
  if x1 < 0 then
    some ((-1 : Int32), M)
  else
    if ρ.2.1 r0 = 11 then
    if (M r0 0) ≤ x1 then
      some ((-1 : Int32), M)
    else
      (ρ.1 r0 2).bind fun j4 =>
      if ρ.2.1 j4 = 0 then
      if ¬ (x1 < 0 ∨ ρ.2.2.1 j4 ≤ x1.toNatClampNeg) then
      some ((M j4 x1.toNatClampNeg), M)
      else none
      else none
    else none
set_option maxRecDepth 100000 in
set_option maxHeartbeats 4000000 in
theorem aX1_firstAt {Γ : ao_C} (d : Nat) (hd : 0 ≤ d) (r0 : Nat) (x1 : Int32) (M : ao_M) (ρ : ao_H) {y : Int32 × ao_M} (h : gX1_firstAt r0 x1 M ρ = some y) : ao_A Γ uX1_firstAt d 0 0 [.ref (Γ.2.2.2 + r0), .int x1] (M, ρ) (ao_PI ρ y) := by
  refine ao_of (by decide) (ao_cat1 (Nat.le_of_ble_eq_true rfl)) (Nat.le_of_ble_eq_true rfl) ?_
  show ao_W Γ uX1_firstAt (ao_rm d 0 0) (ao_Q Γ (ao_PI ρ y) 0 0) 0 0 0 [some (.ref (Γ.2.2.2 + r0)), some (.int x1)] [] (M, ρ)
  unfold gX1_firstAt at h
  refine ao_iload_n 1 dX1_firstAt_0 rfl rfl ?_
  refine ao_if_lt 21 dX1_firstAt_1 (by decide) (fun c1 => ?_) (fun c1 => ?_)
  · replace h := ao_ifT h c1
    refine ao_iconst (v := (-1)) dX1_firstAt_21 (by decide) ?_
    cases h
    exact ao_ireturn dX1_firstAt_22 rfl rfl ⟨rfl, rfl⟩
  · replace h := ao_ifF h c1
    refine ao_iload_n 1 dX1_firstAt_4 rfl rfl ?_
    refine ao_aload_n 0 dX1_firstAt_5 rfl rfl ?_
    obtain ⟨hk2, h⟩ := ao_some h
    refine an_getI r0 1 0 (q := (RX1, TX1, 6)) dX1_firstAt_6 rfl hk2 (Nat.le_of_ble_eq_true rfl) rfl lf_X1_7 ?_
    refine ao_icmp_ge 21 dX1_firstAt_9 (by decide) (fun c3 => ?_) (fun c3 => ?_)
    · replace h := ao_ifT h c3
      refine ao_iconst (v := (-1)) dX1_firstAt_21 (by decide) ?_
      cases h
      exact ao_ireturn dX1_firstAt_22 rfl rfl ⟨rfl, rfl⟩
    · replace h := ao_ifF h c3
      refine ao_aload_n 0 dX1_firstAt_12 rfl rfl ?_
      obtain ⟨j4, hj4, h⟩ := ao_bind h
      refine an_getR r0 1 2 (q := (RX1, TX1, 6)) dX1_firstAt_13 rfl hk2 (Nat.le_of_ble_eq_true rfl) rfl lf_X1_17 hj4 ?_
      refine ao_iload_n 1 dX1_firstAt_16 rfl rfl ?_
      obtain ⟨hk5, h⟩ := ao_some h
      obtain ⟨hb6, h⟩ := ao_some h
      refine an_iaload j4 dX1_firstAt_17 hk5 hb6 ?_
      refine ao_goto 22 dX1_firstAt_18 (by decide) ?_
      cases h
      exact ao_ireturn dX1_firstAt_22 rfl rfl ⟨rfl, rfl⟩

abbrev uX1_secondAt : ao_Mi := (yX1_secondAt, cX1_secondAt, 2, (some .int), [])
def gX1_secondAt (r0 : Nat) (x1 : Int32) (M : ao_M) (ρ : ao_H) : Option (Int32 × ao_M) :=
  if x1 < 0 then
    some ((-1 : Int32), M)
  else
    if ρ.2.1 r0 = 11 then
    if (M r0 0) ≤ x1 then
      some ((-1 : Int32), M)
    else
      (ρ.1 r0 3).bind fun j4 =>
      if ρ.2.1 j4 = 0 then
      if ¬ (x1 < 0 ∨ ρ.2.2.1 j4 ≤ x1.toNatClampNeg) then
      some ((M j4 x1.toNatClampNeg), M)
      else none
      else none
    else none
set_option maxRecDepth 100000 in
set_option maxHeartbeats 4000000 in
theorem aX1_secondAt {Γ : ao_C} (d : Nat) (hd : 0 ≤ d) (r0 : Nat) (x1 : Int32) (M : ao_M) (ρ : ao_H) {y : Int32 × ao_M} (h : gX1_secondAt r0 x1 M ρ = some y) : ao_A Γ uX1_secondAt d 0 0 [.ref (Γ.2.2.2 + r0), .int x1] (M, ρ) (ao_PI ρ y) := by
  refine ao_of (by decide) (ao_cat1 (Nat.le_of_ble_eq_true rfl)) (Nat.le_of_ble_eq_true rfl) ?_
  show ao_W Γ uX1_secondAt (ao_rm d 0 0) (ao_Q Γ (ao_PI ρ y) 0 0) 0 0 0 [some (.ref (Γ.2.2.2 + r0)), some (.int x1)] [] (M, ρ)
  unfold gX1_secondAt at h
  refine ao_iload_n 1 dX1_secondAt_0 rfl rfl ?_
  refine ao_if_lt 21 dX1_secondAt_1 (by decide) (fun c1 => ?_) (fun c1 => ?_)
  · replace h := ao_ifT h c1
    refine ao_iconst (v := (-1)) dX1_secondAt_21 (by decide) ?_
    cases h
    exact ao_ireturn dX1_secondAt_22 rfl rfl ⟨rfl, rfl⟩
  · replace h := ao_ifF h c1
    refine ao_iload_n 1 dX1_secondAt_4 rfl rfl ?_
    refine ao_aload_n 0 dX1_secondAt_5 rfl rfl ?_
    obtain ⟨hk2, h⟩ := ao_some h
    refine an_getI r0 1 0 (q := (RX1, TX1, 6)) dX1_secondAt_6 rfl hk2 (Nat.le_of_ble_eq_true rfl) rfl lf_X1_7 ?_
    refine ao_icmp_ge 21 dX1_secondAt_9 (by decide) (fun c3 => ?_) (fun c3 => ?_)
    · replace h := ao_ifT h c3
      refine ao_iconst (v := (-1)) dX1_secondAt_21 (by decide) ?_
      cases h
      exact ao_ireturn dX1_secondAt_22 rfl rfl ⟨rfl, rfl⟩
    · replace h := ao_ifF h c3
      refine ao_aload_n 0 dX1_secondAt_12 rfl rfl ?_
      obtain ⟨j4, hj4, h⟩ := ao_bind h
      refine an_getR r0 1 3 (q := (RX1, TX1, 6)) dX1_secondAt_13 rfl hk2 (Nat.le_of_ble_eq_true rfl) rfl lf_X1_20 hj4 ?_
      refine ao_iload_n 1 dX1_secondAt_16 rfl rfl ?_
      obtain ⟨hk5, h⟩ := ao_some h
      obtain ⟨hb6, h⟩ := ao_some h
      refine an_iaload j4 dX1_secondAt_17 hk5 hb6 ?_
      refine ao_goto 22 dX1_secondAt_18 (by decide) ?_
      cases h
      exact ao_ireturn dX1_secondAt_22 rfl rfl ⟨rfl, rfl⟩
