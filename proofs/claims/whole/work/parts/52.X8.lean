abbrev uX8_add : ao_Mi := (yX8_add, cX8_add, 3, none, [])
def gX8_add (r0 : Nat) (x1 : Int32) (x2 : Int32) (M : ao_M) (ρ : ao_H) : Option (ao_M) :=
  if ρ.2.1 r0 = 18 then
  if (M r0 2) < 0 then
    some M
  else
    if (200 : Int32) ≤ (M r0 2) then
      some M
    else
      (ρ.1 r0 0).bind fun j4 =>
      if ρ.2.1 j4 = 0 then
      if ¬ ((M r0 2) < 0 ∨ ρ.2.2.1 j4 ≤ (M r0 2).toNatClampNeg) then
      ao_let (ao_u M j4 (M r0 2).toNatClampNeg x1) fun M7 =>
      (ρ.1 r0 1).bind fun j8 =>
      if ρ.2.1 j8 = 0 then
      if ¬ ((M7 r0 2) < 0 ∨ ρ.2.2.1 j8 ≤ (M7 r0 2).toNatClampNeg) then
      ao_let (ao_u M7 j8 (M7 r0 2).toNatClampNeg x2) fun M11 =>
      ao_let (ao_u M11 r0 2 ((M11 r0 2) + (1 : Int32))) fun M12 =>
      some M12
      else none
      else none
      else none
      else none
  else none
set_option maxRecDepth 100000 in
set_option maxHeartbeats 4000000 in
theorem aX8_add {Γ : ao_C} (d : Nat) (hd : 0 ≤ d) (r0 : Nat) (x1 : Int32) (x2 : Int32) (M : ao_M) (ρ : ao_H) {y : ao_M} (h : gX8_add r0 x1 x2 M ρ = some y) : ao_A Γ uX8_add d 0 0 [.ref (Γ.2.2.2 + r0), .int x1, .int x2] (M, ρ) (ao_PV ρ y) := by
  refine ao_of (by decide) (ao_cat1 (Nat.le_of_ble_eq_true rfl)) (Nat.le_of_ble_eq_true rfl) ?_
  show ao_W Γ uX8_add (ao_rm d 0 0) (ao_Q Γ (ao_PV ρ y) 0 0) 0 0 0 [some (.ref (Γ.2.2.2 + r0)), some (.int x1), some (.int x2)] [] (M, ρ)
  unfold gX8_add at h
  refine ao_aload_n 0 dX8_add_0 rfl rfl ?_
  obtain ⟨hk1, h⟩ := ao_some h
  refine an_getI r0 8 2 (q := (RX8, TX8, 3)) dX8_add_1 rfl hk1 (Nat.le_of_ble_eq_true rfl) rfl lf_X8_18 ?_
  refine ao_if_lt 47 dX8_add_4 (by decide) (fun c2 => ?_) (fun c2 => ?_)
  · replace h := ao_ifT h c2
    cases h
    exact ao_return dX8_add_47 rfl ⟨rfl, rfl⟩
  · replace h := ao_ifF h c2
    refine ao_aload_n 0 dX8_add_7 rfl rfl ?_
    refine an_getI r0 8 2 (q := (RX8, TX8, 3)) dX8_add_8 rfl hk1 (Nat.le_of_ble_eq_true rfl) rfl lf_X8_18 ?_
    refine ao_sipush (v := 200) dX8_add_11 (by decide) ?_
    refine ao_icmp_ge 47 dX8_add_14 (by decide) (fun c3 => ?_) (fun c3 => ?_)
    · replace h := ao_ifT h c3
      cases h
      exact ao_return dX8_add_47 rfl ⟨rfl, rfl⟩
    · replace h := ao_ifF h c3
      refine ao_aload_n 0 dX8_add_17 rfl rfl ?_
      obtain ⟨j4, hj4, h⟩ := ao_bind h
      refine an_getR r0 8 0 (q := (RX8, TX8, 3)) dX8_add_18 rfl hk1 (Nat.le_of_ble_eq_true rfl) rfl lf_X8_9 hj4 ?_
      refine ao_aload_n 0 dX8_add_21 rfl rfl ?_
      refine an_getI r0 8 2 (q := (RX8, TX8, 3)) dX8_add_22 rfl hk1 (Nat.le_of_ble_eq_true rfl) rfl lf_X8_18 ?_
      refine ao_iload_n 1 dX8_add_25 rfl rfl ?_
      obtain ⟨hk5, h⟩ := ao_some h
      obtain ⟨hb6, h⟩ := ao_some h
      refine an_iastore j4 dX8_add_26 hk5 hb6 (fun M7 hM7 => ?_)
      replace h := ao_letD h hM7
      refine ao_aload_n 0 dX8_add_27 rfl rfl ?_
      obtain ⟨j8, hj8, h⟩ := ao_bind h
      refine an_getR r0 8 1 (q := (RX8, TX8, 3)) dX8_add_28 rfl hk1 (Nat.le_of_ble_eq_true rfl) rfl lf_X8_15 hj8 ?_
      refine ao_aload_n 0 dX8_add_31 rfl rfl ?_
      refine an_getI r0 8 2 (q := (RX8, TX8, 3)) dX8_add_32 rfl hk1 (Nat.le_of_ble_eq_true rfl) rfl lf_X8_18 ?_
      refine ao_iload_n 2 dX8_add_35 rfl rfl ?_
      obtain ⟨hk9, h⟩ := ao_some h
      obtain ⟨hb10, h⟩ := ao_some h
      refine an_iastore j8 dX8_add_36 hk9 hb10 (fun M11 hM11 => ?_)
      replace h := ao_letD h hM11
      refine ao_aload_n 0 dX8_add_37 rfl rfl ?_
      refine ao_dup dX8_add_38 rfl ?_
      refine an_getI r0 8 2 (q := (RX8, TX8, 3)) dX8_add_39 rfl hk1 (Nat.le_of_ble_eq_true rfl) rfl lf_X8_18 ?_
      refine ao_iconst (v := 1) dX8_add_42 (by decide) ?_
      refine ao_iadd dX8_add_43 ?_
      refine an_putI r0 8 2 (q := (RX8, TX8, 3)) dX8_add_44 rfl hk1 (Nat.le_of_ble_eq_true rfl) lf_X8_18 rfl rfl rfl rfl (fun M12 hM12 => ?_)
      replace h := ao_letD h hM12
      cases h
      exact ao_return dX8_add_47 rfl ⟨rfl, rfl⟩
