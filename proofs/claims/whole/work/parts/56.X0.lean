abbrev uX0_forget : ao_Mi := (yX0_forget, cX0_forget, 1, none, [])
def gX0_forget (r0 : Nat) (M : ao_M) (ρ : ao_H) : Option (ao_M) :=
  if ρ.2.1 r0 = 10 then
  ao_let (ao_u M r0 1 (0 : Int32)) fun M2 =>
  some M2
  else none
set_option maxRecDepth 100000 in
set_option maxHeartbeats 4000000 in
theorem aX0_forget {Γ : ao_C} (d : Nat) (hd : 0 ≤ d) (r0 : Nat) (M : ao_M) (ρ : ao_H) {y : ao_M} (h : gX0_forget r0 M ρ = some y) : ao_A Γ uX0_forget d 0 0 [.ref (Γ.2.2.2 + r0)] (M, ρ) (ao_PV ρ y) := by
  refine ao_of (by decide) (ao_cat1 (Nat.le_of_ble_eq_true rfl)) (Nat.le_of_ble_eq_true rfl) ?_
  show ao_W Γ uX0_forget (ao_rm d 0 0) (ao_Q Γ (ao_PV ρ y) 0 0) 0 0 0 [some (.ref (Γ.2.2.2 + r0))] [] (M, ρ)
  unfold gX0_forget at h
  refine ao_aload_n 0 dX0_forget_0 rfl rfl ?_
  refine ao_iconst (v := 0) dX0_forget_1 (by decide) ?_
  obtain ⟨hk1, h⟩ := ao_some h
  refine an_putI r0 0 1 (q := (RX0, TX0, 5)) dX0_forget_2 rfl hk1 (Nat.le_of_ble_eq_true rfl) lf_X0_23 rfl rfl rfl rfl (fun M2 hM2 => ?_)
  replace h := ao_letD h hM2
  cases h
  exact ao_return dX0_forget_5 rfl ⟨rfl, rfl⟩

abbrev uX0_isAsItIs : ao_Mi := (yX0_isAsItIs, cX0_isAsItIs, 4, (some .boolean), [])
def fX0_isAsItIs : Nat → Nat → Nat → Nat → Int32 → Int32 →  ao_M → ao_H → Option (Int32 × ao_M)
  | 0, _, _, _, _, _, _, _ => none
  | n + 1, pc, r0, r1, x2, x3, M, ρ =>
    if pc = 0 then
      if x2 < 0 then
        some ((0 : Int32), M)
      else
        if x2 ≤ (14 : Int32) then
          fX0_isAsItIs n 14 r0 r1 x2 (0 : Int32) M ρ
        else
          some ((0 : Int32), M)
    else if pc = 14 then
      if (26 : Int32) ≤ x3 then
        some ((1 : Int32), M)
      else
        if ρ.2.1 r1 = 15 then
        (ρ.1 r1 2).bind fun j5 =>
        if ρ.2.1 j5 = 0 then
        if ¬ (x3 < 0 ∨ ρ.2.2.1 j5 ≤ x3.toNatClampNeg) then
        if (M j5 x3.toNatClampNeg) = (-1 : Int32) then
          (ρ.1 r1 0).bind fun j9 =>
          if ρ.2.1 j9 = 0 then
          if ¬ (x3 < 0 ∨ ρ.2.2.1 j9 ≤ x3.toNatClampNeg) then
          if ρ.2.1 r0 = 10 then
          (ρ.1 r0 2).bind fun j13 =>
          if ρ.2.1 j13 = 6 then
          if ¬ (x2 < 0 ∨ ρ.2.2.1 j13 ≤ x2.toNatClampNeg) then
          (ρ.1 j13 x2.toNatClampNeg).bind fun j16 =>
          if ρ.2.1 j16 = 0 then
          if ¬ (x3 < 0 ∨ ρ.2.2.1 j16 ≤ x3.toNatClampNeg) then
          if (M j9 x3.toNatClampNeg) = (M j16 x3.toNatClampNeg) then
            fX0_isAsItIs n 49 r0 r1 x2 x3 M ρ
          else
            some ((0 : Int32), M)
          else none
          else none
          else none
          else none
          else none
          else none
          else none
        else
          fX0_isAsItIs n 49 r0 r1 x2 x3 M ρ
        else none
        else none
        else none
    else if pc = 49 then
      ao_let (x3 + (1 : Int32)) fun v20 =>
      fX0_isAsItIs n 14 r0 r1 x2 v20 M ρ
    else none
def gX0_isAsItIs (n : Nat) (r0 : Nat) (r1 : Nat) (x2 : Int32) (M : ao_M) (ρ : ao_H) : Option (Int32 × ao_M) := fX0_isAsItIs n 0 r0 r1 x2 0 M ρ
set_option maxRecDepth 100000 in
set_option maxHeartbeats 4000000 in
theorem wX0_isAsItIs {Γ : ao_C} {ρ : ao_H} (d : Nat) (hd : 0 ≤ d) : ∀ n : Nat, (∀ (r0 : Nat) (r1 : Nat) (x2 : Int32) (M : ao_M) (y : Int32 × ao_M), fX0_isAsItIs n 0 r0 r1 x2 0 M ρ = some y → ao_W Γ uX0_isAsItIs (ao_rm d 0 0) (ao_Q Γ (ao_PI ρ y) 0 0) 0 0 0 [some (.ref (Γ.2.2.2 + r0)), some (.ref (Γ.2.2.2 + r1)), some (.int x2), none] [] (M, ρ)) ∧ (∀ (r0 : Nat) (r1 : Nat) (x2 : Int32) (x3 : Int32) (M : ao_M) (y : Int32 × ao_M), fX0_isAsItIs n 14 r0 r1 x2 x3 M ρ = some y → ao_W Γ uX0_isAsItIs (ao_rm d 0 0) (ao_Q Γ (ao_PI ρ y) 0 0) 0 0 14 [some (.ref (Γ.2.2.2 + r0)), some (.ref (Γ.2.2.2 + r1)), some (.int x2), some (.int x3)] [] (M, ρ)) ∧ (∀ (r0 : Nat) (r1 : Nat) (x2 : Int32) (x3 : Int32) (M : ao_M) (y : Int32 × ao_M), fX0_isAsItIs n 49 r0 r1 x2 x3 M ρ = some y → ao_W Γ uX0_isAsItIs (ao_rm d 0 0) (ao_Q Γ (ao_PI ρ y) 0 0) 0 0 49 [some (.ref (Γ.2.2.2 + r0)), some (.ref (Γ.2.2.2 + r1)), some (.int x2), some (.int x3)] [] (M, ρ)) := by
  intro n
  induction n with
  | zero => exact ⟨fun _ _ _ _ _ h => ao_no h, fun _ _ _ _ _ _ h => ao_no h, fun _ _ _ _ _ _ h => ao_no h⟩
  | succ n ih =>
    refine ⟨?_, ?_, ?_⟩
    · intro r0 r1 x2 M y h
      replace h := ao_ifT h rfl
      refine ao_iload_n 2 dX0_isAsItIs_0 rfl rfl ?_
      refine ao_if_lt 10 dX0_isAsItIs_1 (by decide) (fun c1 => ?_) (fun c1 => ?_)
      · replace h := ao_ifT h c1
        refine ao_iconst (v := 0) dX0_isAsItIs_10 (by decide) ?_
        cases h
        exact ao_ireturn dX0_isAsItIs_11 rfl rfl ⟨rfl, rfl⟩
      · replace h := ao_ifF h c1
        refine ao_iload_n 2 dX0_isAsItIs_4 rfl rfl ?_
        refine ao_bipush (v := 14) dX0_isAsItIs_5 (by decide) ?_
        refine ao_icmp_le 12 dX0_isAsItIs_7 (by decide) (fun c2 => ?_) (fun c2 => ?_)
        · replace h := ao_ifT h c2
          refine ao_iconst (v := 0) dX0_isAsItIs_12 (by decide) ?_
          refine ao_istore_n 3 (lo' := [some (.ref (Γ.2.2.2 + r0)), some (.ref (Γ.2.2.2 + r1)), some (.int x2), some (.int (0 : Int32))]) dX0_isAsItIs_13 rfl (Nat.le_of_ble_eq_true rfl) rfl ?_
          exact ih.2.1 r0 r1 x2 (0 : Int32) M _ h
        · replace h := ao_ifF h c2
          refine ao_iconst (v := 0) dX0_isAsItIs_10 (by decide) ?_
          cases h
          exact ao_ireturn dX0_isAsItIs_11 rfl rfl ⟨rfl, rfl⟩
    · intro r0 r1 x2 x3 M y h
      replace h := ao_ifF h (by decide)
      replace h := ao_ifT h rfl
      refine ao_iload_n 3 dX0_isAsItIs_14 rfl rfl ?_
      refine ao_bipush (v := 26) dX0_isAsItIs_15 (by decide) ?_
      refine ao_icmp_ge 55 dX0_isAsItIs_17 (by decide) (fun c3 => ?_) (fun c3 => ?_)
      · replace h := ao_ifT h c3
        refine ao_iconst (v := 1) dX0_isAsItIs_55 (by decide) ?_
        cases h
        exact ao_ireturn dX0_isAsItIs_56 rfl rfl ⟨rfl, rfl⟩
      · replace h := ao_ifF h c3
        refine ao_aload_n 1 dX0_isAsItIs_20 rfl rfl ?_
        obtain ⟨hk4, h⟩ := ao_some h
        obtain ⟨j5, hj5, h⟩ := ao_bind h
        refine an_getR r1 5 2 (q := (RX5, TX5, 11)) dX0_isAsItIs_21 rfl hk4 (Nat.le_of_ble_eq_true rfl) rfl lf_X0_70 hj5 ?_
        refine ao_iload_n 3 dX0_isAsItIs_24 rfl rfl ?_
        obtain ⟨hk6, h⟩ := ao_some h
        obtain ⟨hb7, h⟩ := ao_some h
        refine an_iaload j5 dX0_isAsItIs_25 hk6 hb7 ?_
        refine ao_iconst (v := (-1)) dX0_isAsItIs_26 (by decide) ?_
        refine ao_icmp_ne 49 dX0_isAsItIs_27 (by decide) (fun c8 => ?_) (fun c8 => ?_)
        · replace h := ao_ifF h c8
          exact ih.2.2 r0 r1 x2 x3 M _ h
        · replace h := ao_ifT h c8
          refine ao_aload_n 1 dX0_isAsItIs_30 rfl rfl ?_
          obtain ⟨j9, hj9, h⟩ := ao_bind h
          refine an_getR r1 5 0 (q := (RX5, TX5, 11)) dX0_isAsItIs_31 rfl hk4 (Nat.le_of_ble_eq_true rfl) rfl lf_X0_73 hj9 ?_
          refine ao_iload_n 3 dX0_isAsItIs_34 rfl rfl ?_
          obtain ⟨hk10, h⟩ := ao_some h
          obtain ⟨hb11, h⟩ := ao_some h
          refine an_iaload j9 dX0_isAsItIs_35 hk10 hb11 ?_
          refine ao_aload_n 0 dX0_isAsItIs_36 rfl rfl ?_
          obtain ⟨hk12, h⟩ := ao_some h
          obtain ⟨j13, hj13, h⟩ := ao_bind h
          refine an_getR r0 0 2 (q := (RX0, TX0, 5)) dX0_isAsItIs_37 rfl hk12 (Nat.le_of_ble_eq_true rfl) rfl lf_X0_17 hj13 ?_
          refine ao_iload_n 2 dX0_isAsItIs_40 rfl rfl ?_
          obtain ⟨hk14, h⟩ := ao_some h
          obtain ⟨hb15, h⟩ := ao_some h
          obtain ⟨j16, hj16, h⟩ := ao_bind h
          refine an_aaload j13 6 dX0_isAsItIs_41 hk14 (by decide) hb15 hj16 ?_
          refine ao_iload_n 3 dX0_isAsItIs_42 rfl rfl ?_
          obtain ⟨hk17, h⟩ := ao_some h
          obtain ⟨hb18, h⟩ := ao_some h
          refine an_iaload j16 dX0_isAsItIs_43 hk17 hb18 ?_
          refine ao_icmp_eq 49 dX0_isAsItIs_44 (by decide) (fun c19 => ?_) (fun c19 => ?_)
          · replace h := ao_ifT h c19
            exact ih.2.2 r0 r1 x2 x3 M _ h
          · replace h := ao_ifF h c19
            refine ao_iconst (v := 0) dX0_isAsItIs_47 (by decide) ?_
            cases h
            exact ao_ireturn dX0_isAsItIs_48 rfl rfl ⟨rfl, rfl⟩
    · intro r0 r1 x2 x3 M y h
      replace h := ao_ifF h (by decide)
      replace h := ao_ifF h (by decide)
      replace h := ao_ifT h rfl
      obtain ⟨v20, hv20⟩ : ∃ z : Int32, z = x3 + (1 : Int32) := ⟨_, rfl⟩
      replace h := ao_letD h hv20
      refine ao_iinc 3 (v := v20) (lo' := [some (.ref (Γ.2.2.2 + r0)), some (.ref (Γ.2.2.2 + r1)), some (.int x2), some (.int v20)]) dX0_isAsItIs_49 rfl (by rw [hv20]; rfl) (Nat.le_of_ble_eq_true rfl) rfl ?_
      refine ao_goto 14 dX0_isAsItIs_52 (by decide) ?_
      exact ih.2.1 r0 r1 x2 v20 M _ h
set_option maxRecDepth 100000 in
set_option maxHeartbeats 4000000 in
theorem aX0_isAsItIs {Γ : ao_C} (d : Nat) (hd : 0 ≤ d) (n : Nat) (r0 : Nat) (r1 : Nat) (x2 : Int32) (M : ao_M) (ρ : ao_H) {y : Int32 × ao_M} (h : gX0_isAsItIs n r0 r1 x2 M ρ = some y) : ao_A Γ uX0_isAsItIs d 0 0 [.ref (Γ.2.2.2 + r0), .ref (Γ.2.2.2 + r1), .int x2] (M, ρ) (ao_PI ρ y) := by
  refine ao_of (by decide) (ao_cat1 (Nat.le_of_ble_eq_true rfl)) (Nat.le_of_ble_eq_true rfl) ?_
  show ao_W Γ uX0_isAsItIs (ao_rm d 0 0) (ao_Q Γ (ao_PI ρ y) 0 0) 0 0 0 [some (.ref (Γ.2.2.2 + r0)), some (.ref (Γ.2.2.2 + r1)), some (.int x2), none] [] (M, ρ)
  exact (wX0_isAsItIs d hd n).1 r0 r1 x2 M y h

abbrev uX0_maskAhead : ao_Mi := (yX0_maskAhead, cX0_maskAhead, 5, (some .int), [])
def fX0_maskAhead : Nat → Nat → Nat → Int32 → Int32 → Int32 → Int32 →  ao_M → ao_H → Option (Int32 × ao_M)
  | 0, _, _, _, _, _, _, _, _ => none
  | n + 1, pc, r0, x1, x2, x3, x4, M, ρ =>
    if pc = 0 then
      fX0_maskAhead n 5 r0 x1 x2 (0 : Int32) (0 : Int32) M ρ
    else if pc = 5 then
      if x1 ≤ x4 then
        some (x3, M)
      else
        if (14 : Int32) ≤ x4 then
          some (x3, M)
        else
          if ρ.2.1 r0 = 16 then
          (gX6_isAhead r0 x4 x2 M ρ).bind fun p4 =>
          if p4.1 = 0 then
            fX0_maskAhead n 35 r0 x1 x2 x3 x4 p4.2 ρ
          else
            ao_let (x3 ||| ((1 : Int32) <<< (x4 &&& 31))) fun v6 =>
            fX0_maskAhead n 35 r0 x1 x2 v6 x4 p4.2 ρ
          else none
    else if pc = 35 then
      ao_let (x4 + (1 : Int32)) fun v7 =>
      fX0_maskAhead n 5 r0 x1 x2 x3 v7 M ρ
    else none
def gX0_maskAhead (n : Nat) (r0 : Nat) (x1 : Int32) (x2 : Int32) (M : ao_M) (ρ : ao_H) : Option (Int32 × ao_M) := fX0_maskAhead n 0 r0 x1 x2 0 0 M ρ
set_option maxRecDepth 100000 in
set_option maxHeartbeats 4000000 in
theorem wX0_maskAhead {Γ : ao_C} {ρ : ao_H} (d : Nat) (hd : 1 ≤ d) : ∀ n : Nat, (∀ (r0 : Nat) (x1 : Int32) (x2 : Int32) (M : ao_M) (y : Int32 × ao_M), fX0_maskAhead n 0 r0 x1 x2 0 0 M ρ = some y → ao_W Γ uX0_maskAhead (ao_rm d 0 0) (ao_Q Γ (ao_PI ρ y) 0 0) 0 0 0 [some (.ref (Γ.2.2.2 + r0)), some (.int x1), some (.int x2), none, none] [] (M, ρ)) ∧ (∀ (r0 : Nat) (x1 : Int32) (x2 : Int32) (x3 : Int32) (x4 : Int32) (M : ao_M) (y : Int32 × ao_M), fX0_maskAhead n 5 r0 x1 x2 x3 x4 M ρ = some y → ao_W Γ uX0_maskAhead (ao_rm d 0 0) (ao_Q Γ (ao_PI ρ y) 0 0) 0 0 5 [some (.ref (Γ.2.2.2 + r0)), some (.int x1), some (.int x2), some (.int x3), some (.int x4)] [] (M, ρ)) ∧ (∀ (r0 : Nat) (x1 : Int32) (x2 : Int32) (x3 : Int32) (x4 : Int32) (M : ao_M) (y : Int32 × ao_M), fX0_maskAhead n 35 r0 x1 x2 x3 x4 M ρ = some y → ao_W Γ uX0_maskAhead (ao_rm d 0 0) (ao_Q Γ (ao_PI ρ y) 0 0) 0 0 35 [some (.ref (Γ.2.2.2 + r0)), some (.int x1), some (.int x2), some (.int x3), some (.int x4)] [] (M, ρ)) := by
  intro n
  induction n with
  | zero => exact ⟨fun _ _ _ _ _ h => ao_no h, fun _ _ _ _ _ _ _ h => ao_no h, fun _ _ _ _ _ _ _ h => ao_no h⟩
  | succ n ih =>
    refine ⟨?_, ?_, ?_⟩
    · intro r0 x1 x2 M y h
      replace h := ao_ifT h rfl
      refine ao_iconst (v := 0) dX0_maskAhead_0 (by decide) ?_
      refine ao_istore_n 3 (lo' := [some (.ref (Γ.2.2.2 + r0)), some (.int x1), some (.int x2), some (.int (0 : Int32)), none]) dX0_maskAhead_1 rfl (Nat.le_of_ble_eq_true rfl) rfl ?_
      refine ao_iconst (v := 0) dX0_maskAhead_2 (by decide) ?_
      refine ao_istore 4 (lo' := [some (.ref (Γ.2.2.2 + r0)), some (.int x1), some (.int x2), some (.int (0 : Int32)), some (.int (0 : Int32))]) dX0_maskAhead_3 (Nat.le_of_ble_eq_true rfl) rfl ?_
      exact ih.2.1 r0 x1 x2 (0 : Int32) (0 : Int32) M _ h
    · intro r0 x1 x2 x3 x4 M y h
      replace h := ao_ifF h (by decide)
      replace h := ao_ifT h rfl
      refine ao_iload 4 dX0_maskAhead_5 rfl ?_
      refine ao_iload_n 1 dX0_maskAhead_7 rfl rfl ?_
      refine ao_icmp_ge 41 dX0_maskAhead_8 (by decide) (fun c1 => ?_) (fun c1 => ?_)
      · replace h := ao_ifT h c1
        refine ao_iload_n 3 dX0_maskAhead_41 rfl rfl ?_
        cases h
        exact ao_ireturn dX0_maskAhead_42 rfl rfl ⟨rfl, rfl⟩
      · replace h := ao_ifF h c1
        refine ao_iload 4 dX0_maskAhead_11 rfl ?_
        refine ao_bipush (v := 14) dX0_maskAhead_13 (by decide) ?_
        refine ao_icmp_ge 41 dX0_maskAhead_15 (by decide) (fun c2 => ?_) (fun c2 => ?_)
        · replace h := ao_ifT h c2
          refine ao_iload_n 3 dX0_maskAhead_41 rfl rfl ?_
          cases h
          exact ao_ireturn dX0_maskAhead_42 rfl rfl ⟨rfl, rfl⟩
        · replace h := ao_ifF h c2
          refine ao_aload_n 0 dX0_maskAhead_18 rfl rfl ?_
          refine ao_iload 4 dX0_maskAhead_19 rfl ?_
          refine ao_iload_n 2 dX0_maskAhead_21 rfl rfl ?_
          obtain ⟨hk3, h⟩ := ao_some h
          obtain ⟨p4, hp4, h⟩ := ao_bind h
          refine an_callVi r0 6 (q := (RX6, TX6, 11)) [.int x4, .int x2] (aX6_isAhead (d - 1) (by omega) r0 x4 x2 M ρ hp4) dX0_maskAhead_22 lc_X0_54 li_X6_isAhead ls_X6_isAhead rfl hk3 rfl rfl (Nat.le_of_ble_eq_true rfl) (ao_hR (by omega) (by decide)) ?_
          refine ao_if_eq 35 dX0_maskAhead_25 (by decide) (fun c5 => ?_) (fun c5 => ?_)
          · replace h := ao_ifT h c5
            exact ih.2.2 r0 x1 x2 x3 x4 p4.2 _ h
          · replace h := ao_ifF h c5
            refine ao_iload_n 3 dX0_maskAhead_28 rfl rfl ?_
            refine ao_iconst (v := 1) dX0_maskAhead_29 (by decide) ?_
            refine ao_iload 4 dX0_maskAhead_30 rfl ?_
            refine ao_ishl dX0_maskAhead_32 ?_
            refine ao_ior dX0_maskAhead_33 ?_
            refine an_topi (fun v6 hv6 => ?_)
            replace h := ao_letD h hv6
            refine ao_istore_n 3 (lo' := [some (.ref (Γ.2.2.2 + r0)), some (.int x1), some (.int x2), some (.int v6), some (.int x4)]) dX0_maskAhead_34 rfl (Nat.le_of_ble_eq_true rfl) rfl ?_
            exact ih.2.2 r0 x1 x2 v6 x4 p4.2 _ h
    · intro r0 x1 x2 x3 x4 M y h
      replace h := ao_ifF h (by decide)
      replace h := ao_ifF h (by decide)
      replace h := ao_ifT h rfl
      obtain ⟨v7, hv7⟩ : ∃ z : Int32, z = x4 + (1 : Int32) := ⟨_, rfl⟩
      replace h := ao_letD h hv7
      refine ao_iinc 4 (v := v7) (lo' := [some (.ref (Γ.2.2.2 + r0)), some (.int x1), some (.int x2), some (.int x3), some (.int v7)]) dX0_maskAhead_35 rfl (by rw [hv7]; rfl) (Nat.le_of_ble_eq_true rfl) rfl ?_
      refine ao_goto 5 dX0_maskAhead_38 (by decide) ?_
      exact ih.2.1 r0 x1 x2 x3 v7 M _ h
set_option maxRecDepth 100000 in
set_option maxHeartbeats 4000000 in
theorem aX0_maskAhead {Γ : ao_C} (d : Nat) (hd : 1 ≤ d) (n : Nat) (r0 : Nat) (x1 : Int32) (x2 : Int32) (M : ao_M) (ρ : ao_H) {y : Int32 × ao_M} (h : gX0_maskAhead n r0 x1 x2 M ρ = some y) : ao_A Γ uX0_maskAhead d 0 0 [.ref (Γ.2.2.2 + r0), .int x1, .int x2] (M, ρ) (ao_PI ρ y) := by
  refine ao_of (by decide) (ao_cat1 (Nat.le_of_ble_eq_true rfl)) (Nat.le_of_ble_eq_true rfl) ?_
  show ao_W Γ uX0_maskAhead (ao_rm d 0 0) (ao_Q Γ (ao_PI ρ y) 0 0) 0 0 0 [some (.ref (Γ.2.2.2 + r0)), some (.int x1), some (.int x2), none, none] [] (M, ρ)
  exact (wX0_maskAhead d hd n).1 r0 x1 x2 M y h
