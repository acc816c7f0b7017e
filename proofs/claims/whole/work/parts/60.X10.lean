abbrev uX10_place : ao_Mi := (yX10_place, cX10_place, 1, (some .int), [])
def gX10_place (r0 : Nat) (M : ao_M) (ρ : ao_H) : Option (Int32 × ao_M) :=
  if ρ.2.1 r0 = 20 then
  some ((M r0 5), M)
  else none
set_option maxRecDepth 100000 in
set_option maxHeartbeats 4000000 in
theorem aX10_place {Γ : ao_C} (d : Nat) (hd : 0 ≤ d) (r0 : Nat) (M : ao_M) (ρ : ao_H) {y : Int32 × ao_M} (h : gX10_place r0 M ρ = some y) : ao_A Γ uX10_place d 0 0 [.ref (Γ.2.2.2 + r0)] (M, ρ) (ao_PI ρ y) := by
  refine ao_of (by decide) (ao_cat1 (Nat.le_of_ble_eq_true rfl)) (Nat.le_of_ble_eq_true rfl) ?_
  show ao_W Γ uX10_place (ao_rm d 0 0) (ao_Q Γ (ao_PI ρ y) 0 0) 0 0 0 [some (.ref (Γ.2.2.2 + r0))] [] (M, ρ)
  unfold gX10_place at h
  refine ao_aload_n 0 dX10_place_0 rfl rfl ?_
  obtain ⟨hk1, h⟩ := ao_some h
  refine an_getI r0 10 5 (q := (RX10, TX10, 6)) dX10_place_1 rfl hk1 (Nat.le_of_ble_eq_true rfl) rfl lf_X10_38 ?_
  cases h
  exact ao_ireturn dX10_place_4 rfl rfl ⟨rfl, rfl⟩

abbrev uX10_addToTape : ao_Mi := (yX10_addToTape, cX10_addToTape, 3, none, [])
def fX10_addToTape : Nat → Nat → Nat → Int32 → Int32 →  ao_M → ao_H → Option (ao_M)
  | 0, _, _, _, _, _, _ => none
  | n + 1, pc, r0, x1, x2, M, ρ =>
    if pc = 0 then
      fX10_addToTape n 3 r0 x1 (24 : Int32) M ρ
    else if pc = 3 then
      if x2 < 0 then
        some M
      else
        if ρ.2.1 r0 = 20 then
        if (M r0 4) < 0 then
          fX10_addToTape n 47 r0 x1 x2 M ρ
        else
          if (1000 : Int32) ≤ (M r0 4) then
            fX10_addToTape n 47 r0 x1 x2 M ρ
          else
            (ρ.1 r0 0).bind fun j5 =>
            if ρ.2.1 j5 = 1 then
            if ¬ ((M r0 4) < 0 ∨ ρ.2.2.1 j5 ≤ (M r0 4).toNatClampNeg) then
            ao_let (ao_u M j5 (M r0 4).toNatClampNeg (((x1 >>> (x2 &&& 31)).toInt8.toInt32).toInt8.toInt32)) fun M8 =>
            ao_let (ao_u M8 r0 4 ((M8 r0 4) + (1 : Int32))) fun M9 =>
            fX10_addToTape n 47 r0 x1 x2 M9 ρ
            else none
            else none
        else none
    else if pc = 47 then
      ao_let (x2 + (-8 : Int32)) fun v10 =>
      fX10_addToTape n 3 r0 x1 v10 M ρ
    else none
def gX10_addToTape (n : Nat) (r0 : Nat) (x1 : Int32) (M : ao_M) (ρ : ao_H) : Option (ao_M) := fX10_addToTape n 0 r0 x1 0 M ρ
set_option maxRecDepth 100000 in
set_option maxHeartbeats 4000000 in
theorem wX10_addToTape {Γ : ao_C} {ρ : ao_H} (d : Nat) (hd : 0 ≤ d) : ∀ n : Nat, (∀ (r0 : Nat) (x1 : Int32) (M : ao_M) (y : ao_M), fX10_addToTape n 0 r0 x1 0 M ρ = some y → ao_W Γ uX10_addToTape (ao_rm d 0 0) (ao_Q Γ (ao_PV ρ y) 0 0) 0 0 0 [some (.ref (Γ.2.2.2 + r0)), some (.int x1), none] [] (M, ρ)) ∧ (∀ (r0 : Nat) (x1 : Int32) (x2 : Int32) (M : ao_M) (y : ao_M), fX10_addToTape n 3 r0 x1 x2 M ρ = some y → ao_W Γ uX10_addToTape (ao_rm d 0 0) (ao_Q Γ (ao_PV ρ y) 0 0) 0 0 3 [some (.ref (Γ.2.2.2 + r0)), some (.int x1), some (.int x2)] [] (M, ρ)) ∧ (∀ (r0 : Nat) (x1 : Int32) (x2 : Int32) (M : ao_M) (y : ao_M), fX10_addToTape n 47 r0 x1 x2 M ρ = some y → ao_W Γ uX10_addToTape (ao_rm d 0 0) (ao_Q Γ (ao_PV ρ y) 0 0) 0 0 47 [some (.ref (Γ.2.2.2 + r0)), some (.int x1), some (.int x2)] [] (M, ρ)) := by
  intro n
  induction n with
  | zero => exact ⟨fun _ _ _ _ h => ao_no h, fun _ _ _ _ _ h => ao_no h, fun _ _ _ _ _ h => ao_no h⟩
  | succ n ih =>
    refine ⟨?_, ?_, ?_⟩
    · intro r0 x1 M y h
      replace h := ao_ifT h rfl
      refine ao_bipush (v := 24) dX10_addToTape_0 (by decide) ?_
      refine ao_istore_n 2 (lo' := [some (.ref (Γ.2.2.2 + r0)), some (.int x1), some (.int (24 : Int32))]) dX10_addToTape_2 rfl (Nat.le_of_ble_eq_true rfl) rfl ?_
      exact ih.2.1 r0 x1 (24 : Int32) M _ h
    · intro r0 x1 x2 M y h
      replace h := ao_ifF h (by decide)
      replace h := ao_ifT h rfl
      refine ao_iload_n 2 dX10_addToTape_3 rfl rfl ?_
      refine ao_if_lt 53 dX10_addToTape_4 (by decide) (fun c1 => ?_) (fun c1 => ?_)
      · replace h := ao_ifT h c1
        cases h
        exact ao_return dX10_addToTape_53 rfl ⟨rfl, rfl⟩
      · replace h := ao_ifF h c1
        refine ao_aload_n 0 dX10_addToTape_7 rfl rfl ?_
        obtain ⟨hk2, h⟩ := ao_some h
        refine an_getI r0 10 4 (q := (RX10, TX10, 6)) dX10_addToTape_8 rfl hk2 (Nat.le_of_ble_eq_true rfl) rfl lf_X10_34 ?_
        refine ao_if_lt 47 dX10_addToTape_11 (by decide) (fun c3 => ?_) (fun c3 => ?_)
        · replace h := ao_ifT h c3
          exact ih.2.2 r0 x1 x2 M _ h
        · replace h := ao_ifF h c3
          refine ao_aload_n 0 dX10_addToTape_14 rfl rfl ?_
          refine an_getI r0 10 4 (q := (RX10, TX10, 6)) dX10_addToTape_15 rfl hk2 (Nat.le_of_ble_eq_true rfl) rfl lf_X10_34 ?_
          refine ao_sipush (v := 1000) dX10_addToTape_18 (by decide) ?_
          refine ao_icmp_ge 47 dX10_addToTape_21 (by decide) (fun c4 => ?_) (fun c4 => ?_)
          · replace h := ao_ifT h c4
            exact ih.2.2 r0 x1 x2 M _ h
          · replace h := ao_ifF h c4
            refine ao_aload_n 0 dX10_addToTape_24 rfl rfl ?_
            obtain ⟨j5, hj5, h⟩ := ao_bind h
            refine an_getR r0 10 0 (q := (RX10, TX10, 6)) dX10_addToTape_25 rfl hk2 (Nat.le_of_ble_eq_true rfl) rfl lf_X10_9 hj5 ?_
            refine ao_aload_n 0 dX10_addToTape_28 rfl rfl ?_
            refine an_getI r0 10 4 (q := (RX10, TX10, 6)) dX10_addToTape_29 rfl hk2 (Nat.le_of_ble_eq_true rfl) rfl lf_X10_34 ?_
            refine ao_iload_n 1 dX10_addToTape_32 rfl rfl ?_
            refine ao_iload_n 2 dX10_addToTape_33 rfl rfl ?_
            refine ao_ishr dX10_addToTape_34 ?_
            refine ao_i2b dX10_addToTape_35 ?_
            obtain ⟨hk6, h⟩ := ao_some h
            obtain ⟨hb7, h⟩ := ao_some h
            refine an_bastore j5 dX10_addToTape_36 hk6 hb7 (fun M8 hM8 => ?_)
            replace h := ao_letD h hM8
            refine ao_aload_n 0 dX10_addToTape_37 rfl rfl ?_
            refine ao_dup dX10_addToTape_38 rfl ?_
            refine an_getI r0 10 4 (q := (RX10, TX10, 6)) dX10_addToTape_39 rfl hk2 (Nat.le_of_ble_eq_true rfl) rfl lf_X10_34 ?_
            refine ao_iconst (v := 1) dX10_addToTape_42 (by decide) ?_
            refine ao_iadd dX10_addToTape_43 ?_
            refine an_putI r0 10 4 (q := (RX10, TX10, 6)) dX10_addToTape_44 rfl hk2 (Nat.le_of_ble_eq_true rfl) lf_X10_34 rfl rfl rfl rfl (fun M9 hM9 => ?_)
            replace h := ao_letD h hM9
            exact ih.2.2 r0 x1 x2 M9 _ h
    · intro r0 x1 x2 M y h
      replace h := ao_ifF h (by decide)
      replace h := ao_ifF h (by decide)
      replace h := ao_ifT h rfl
      obtain ⟨v10, hv10⟩ : ∃ z : Int32, z = x2 + (-8 : Int32) := ⟨_, rfl⟩
      replace h := ao_letD h hv10
      refine ao_iinc 2 (v := v10) (lo' := [some (.ref (Γ.2.2.2 + r0)), some (.int x1), some (.int v10)]) dX10_addToTape_47 rfl (by rw [hv10]; rfl) (Nat.le_of_ble_eq_true rfl) rfl ?_
      refine ao_goto 3 dX10_addToTape_50 (by decide) ?_
      exact ih.2.1 r0 x1 v10 M _ h
set_option maxRecDepth 100000 in
set_option maxHeartbeats 4000000 in
theorem aX10_addToTape {Γ : ao_C} (d : Nat) (hd : 0 ≤ d) (n : Nat) (r0 : Nat) (x1 : Int32) (M : ao_M) (ρ : ao_H) {y : ao_M} (h : gX10_addToTape n r0 x1 M ρ = some y) : ao_A Γ uX10_addToTape d 0 0 [.ref (Γ.2.2.2 + r0), .int x1] (M, ρ) (ao_PV ρ y) := by
  refine ao_of (by decide) (ao_cat1 (Nat.le_of_ble_eq_true rfl)) (Nat.le_of_ble_eq_true rfl) ?_
  show ao_W Γ uX10_addToTape (ao_rm d 0 0) (ao_Q Γ (ao_PV ρ y) 0 0) 0 0 0 [some (.ref (Γ.2.2.2 + r0)), some (.int x1), none] [] (M, ρ)
  exact (wX10_addToTape d hd n).1 r0 x1 M y h
