abbrev uX2_howManyAre : ao_Mi := (yX2_howManyAre, cX2_howManyAre, 4, (some .int), [])
def fX2_howManyAre : Nat → Nat → Nat → Int32 → Int32 → Int32 →  ao_M → ao_H → Option (Int32 × ao_M)
  | 0, _, _, _, _, _, _, _ => none
  | n + 1, pc, r0, x1, x2, x3, M, ρ =>
    if pc = 0 then
      fX2_howManyAre n 4 r0 x1 (0 : Int32) (0 : Int32) M ρ
    else if pc = 4 then
      if (6 : Int32) ≤ x3 then
        some (x2, M)
      else
        if ρ.2.1 r0 = 12 then
        (ρ.1 r0 1).bind fun j3 =>
        if ρ.2.1 j3 = 4 then
        if ¬ (x3 < 0 ∨ ρ.2.2.1 j3 ≤ x3.toNatClampNeg) then
        (ρ.1 j3 x3.toNatClampNeg).bind fun j6 =>
        if ρ.2.1 j6 = 17 then
        if (M j6 2) = x1 then
          ao_let (x2 + (1 : Int32)) fun v9 =>
          fX2_howManyAre n 26 r0 x1 v9 x3 M ρ
        else
          fX2_howManyAre n 26 r0 x1 x2 x3 M ρ
        else none
        else none
        else none
        else none
    else if pc = 26 then
      ao_let (x3 + (1 : Int32)) fun v10 =>
      fX2_howManyAre n 4 r0 x1 x2 v10 M ρ
    else none
def gX2_howManyAre (n : Nat) (r0 : Nat) (x1 : Int32) (M : ao_M) (ρ : ao_H) : Option (Int32 × ao_M) := fX2_howManyAre n 0 r0 x1 0 0 M ρ
set_option maxRecDepth 100000 in
set_option maxHeartbeats 4000000 in
theorem wX2_howManyAre {Γ : ao_C} {ρ : ao_H} (d : Nat) (hd : 0 ≤ d) : ∀ n : Nat, (∀ (r0 : Nat) (x1 : Int32) (M : ao_M) (y : Int32 × ao_M), fX2_howManyAre n 0 r0 x1 0 0 M ρ = some y → ao_W Γ uX2_howManyAre (ao_rm d 0 0) (ao_Q Γ (ao_PI ρ y) 0 0) 0 0 0 [some (.ref (Γ.2.2.2 + r0)), some (.int x1), none, none] [] (M, ρ)) ∧ (∀ (r0 : Nat) (x1 : Int32) (x2 : Int32) (x3 : Int32) (M : ao_M) (y : Int32 × ao_M), fX2_howManyAre n 4 r0 x1 x2 x3 M ρ = some y → ao_W Γ uX2_howManyAre (ao_rm d 0 0) (ao_Q Γ (ao_PI ρ y) 0 0) 0 0 4 [some (.ref (Γ.2.2.2 + r0)), some (.int x1), some (.int x2), some (.int x3)] [] (M, ρ)) ∧ (∀ (r0 : Nat) (x1 : Int32) (x2 : Int32) (x3 : Int32) (M : ao_M) (y : Int32 × ao_M), fX2_howManyAre n 26 r0 x1 x2 x3 M ρ = some y → ao_W Γ uX2_howManyAre (ao_rm d 0 0) (ao_Q Γ (ao_PI ρ y) 0 0) 0 0 26 [some (.ref (Γ.2.2.2 + r0)), some (.int x1), some (.int x2), some (.int x3)] [] (M, ρ)) := by
  intro n
  induction n with
  | zero => exact ⟨fun _ _ _ _ h => ao_no h, fun _ _ _ _ _ _ h => ao_no h, fun _ _ _ _ _ _ h => ao_no h⟩
  | succ n ih =>
    refine ⟨?_, ?_, ?_⟩
    · intro r0 x1 M y h
      replace h := ao_ifT h rfl
      refine ao_iconst (v := 0) dX2_howManyAre_0 (by decide) ?_
      refine ao_istore_n 2 (lo' := [some (.ref (Γ.2.2.2 + r0)), some (.int x1), some (.int (0 : Int32)), none]) dX2_howManyAre_1 rfl (Nat.le_of_ble_eq_true rfl) rfl ?_
      refine ao_iconst (v := 0) dX2_howManyAre_2 (by decide) ?_
      refine ao_istore_n 3 (lo' := [some (.ref (Γ.2.2.2 + r0)), some (.int x1), some (.int (0 : Int32)), some (.int (0 : Int32))]) dX2_howManyAre_3 rfl (Nat.le_of_ble_eq_true rfl) rfl ?_
      exact ih.2.1 r0 x1 (0 : Int32) (0 : Int32) M _ h
    · intro r0 x1 x2 x3 M y h
      replace h := ao_ifF h (by decide)
      replace h := ao_ifT h rfl
      refine ao_iload_n 3 dX2_howManyAre_4 rfl rfl ?_
      refine ao_bipush (v := 6) dX2_howManyAre_5 (by decide) ?_
      refine ao_icmp_ge 32 dX2_howManyAre_7 (by decide) (fun c1 => ?_) (fun c1 => ?_)
      · replace h := ao_ifT h c1
        refine ao_iload_n 2 dX2_howManyAre_32 rfl rfl ?_
        cases h
        exact ao_ireturn dX2_howManyAre_33 rfl rfl ⟨rfl, rfl⟩
      · replace h := ao_ifF h c1
        refine ao_aload_n 0 dX2_howManyAre_10 rfl rfl ?_
        obtain ⟨hk2, h⟩ := ao_some h
        obtain ⟨j3, hj3, h⟩ := ao_bind h
        refine an_getR r0 2 1 (q := (RX2, TX2, 7)) dX2_howManyAre_11 rfl hk2 (Nat.le_of_ble_eq_true rfl) rfl lf_X2_34 hj3 ?_
        refine ao_iload_n 3 dX2_howManyAre_14 rfl rfl ?_
        obtain ⟨hk4, h⟩ := ao_some h
        obtain ⟨hb5, h⟩ := ao_some h
        obtain ⟨j6, hj6, h⟩ := ao_bind h
        refine an_aaload j3 4 dX2_howManyAre_15 hk4 (by decide) hb5 hj6 ?_
        obtain ⟨hk7, h⟩ := ao_some h
        refine an_getI j6 7 2 (q := (RX7, TX7, 20)) dX2_howManyAre_16 rfl hk7 (Nat.le_of_ble_eq_true rfl) rfl lf_X2_55 ?_
        refine ao_iload_n 1 dX2_howManyAre_19 rfl rfl ?_
        refine ao_icmp_ne 26 dX2_howManyAre_20 (by decide) (fun c8 => ?_) (fun c8 => ?_)
        · replace h := ao_ifF h c8
          exact ih.2.2 r0 x1 x2 x3 M _ h
        · replace h := ao_ifT h c8
          obtain ⟨v9, hv9⟩ : ∃ z : Int32, z = x2 + (1 : Int32) := ⟨_, rfl⟩
          replace h := ao_letD h hv9
          refine ao_iinc 2 (v := v9) (lo' := [some (.ref (Γ.2.2.2 + r0)), some (.int x1), some (.int v9), some (.int x3)]) dX2_howManyAre_23 rfl (by rw [hv9]; rfl) (Nat.le_of_ble_eq_true rfl) rfl ?_
          exact ih.2.2 r0 x1 v9 x3 M _ h
    · intro r0 x1 x2 x3 M y h
      replace h := ao_ifF h (by decide)
      replace h := ao_ifF h (by decide)
      replace h := ao_ifT h rfl
      obtain ⟨v10, hv10⟩ : ∃ z : Int32, z = x3 + (1 : Int32) := ⟨_, rfl⟩
      replace h := ao_letD h hv10
      refine ao_iinc 3 (v := v10) (lo' := [some (.ref (Γ.2.2.2 + r0)), some (.int x1), some (.int x2), some (.int v10)]) dX2_howManyAre_26 rfl (by rw [hv10]; rfl) (Nat.le_of_ble_eq_true rfl) rfl ?_
      refine ao_goto 4 dX2_howManyAre_29 (by decide) ?_
      exact ih.2.1 r0 x1 x2 v10 M _ h
set_option maxRecDepth 100000 in
set_option maxHeartbeats 4000000 in
theorem aX2_howManyAre {Γ : ao_C} (d : Nat) (hd : 0 ≤ d) (n : Nat) (r0 : Nat) (x1 : Int32) (M : ao_M) (ρ : ao_H) {y : Int32 × ao_M} (h : gX2_howManyAre n r0 x1 M ρ = some y) : ao_A Γ uX2_howManyAre d 0 0 [.ref (Γ.2.2.2 + r0), .int x1] (M, ρ) (ao_PI ρ y) := by
  refine ao_of (by decide) (ao_cat1 (Nat.le_of_ble_eq_true rfl)) (Nat.le_of_ble_eq_true rfl) ?_
  show ao_W Γ uX2_howManyAre (ao_rm d 0 0) (ao_Q Γ (ao_PI ρ y) 0 0) 0 0 0 [some (.ref (Γ.2.2.2 + r0)), some (.int x1), none, none] [] (M, ρ)
  exact (wX2_howManyAre d hd n).1 r0 x1 M y h

abbrev uX2_compute : ao_Mi := (yX2_compute, cX2_compute, 3, (some .int), [])
def gX2_compute (x0 : Int32) (x1 : Int32) (x2 : Int32) (M : ao_M) (ρ : ao_H) : Option (Int32 × ao_M) :=
  if x0 = (4 : Int32) then
    some ((x1 + x2), M)
  else
    if x0 = (5 : Int32) then
      some ((x1 - x2), M)
    else
      if x0 = (6 : Int32) then
        some ((x1 * x2), M)
      else
        if x0 = (7 : Int32) then
          if x1 = x2 then
            some ((1 : Int32), M)
          else
            some ((0 : Int32), M)
        else
          if x2 ≤ x1 then
            some ((0 : Int32), M)
          else
            some ((1 : Int32), M)
set_option maxRecDepth 100000 in
set_option maxHeartbeats 4000000 in
theorem aX2_compute {Γ : ao_C} (d : Nat) (hd : 0 ≤ d) (x0 : Int32) (x1 : Int32) (x2 : Int32) (M : ao_M) (ρ : ao_H) {y : Int32 × ao_M} (h : gX2_compute x0 x1 x2 M ρ = some y) : ao_A Γ uX2_compute d 0 0 [.int x0, .int x1, .int x2] (M, ρ) (ao_PI ρ y) := by
  refine ao_of (by decide) (ao_cat1 (Nat.le_of_ble_eq_true rfl)) (Nat.le_of_ble_eq_true rfl) ?_
  show ao_W Γ uX2_compute (ao_rm d 0 0) (ao_Q Γ (ao_PI ρ y) 0 0) 0 0 0 [some (.int x0), some (.int x1), some (.int x2)] [] (M, ρ)
  unfold gX2_compute at h
  refine ao_iload_n 0 dX2_compute_0 rfl rfl ?_
  by_cases c1 : x0 = (4 : Int32)
  · replace h := ao_ifT h c1
    refine ao_tableIn 32 dX2_compute_1 (by rw [c1]; decide) (by rw [c1]; decide) (by rw [c1]; rfl) (by decide) ?_
    refine ao_iload_n 1 dX2_compute_32 rfl rfl ?_
    refine ao_iload_n 2 dX2_compute_33 rfl rfl ?_
    refine ao_iadd dX2_compute_34 ?_
    cases h
    exact ao_ireturn dX2_compute_35 rfl rfl ⟨rfl, rfl⟩
  · replace h := ao_ifF h c1
    by_cases c2 : x0 = (5 : Int32)
    · replace h := ao_ifT h c2
      refine ao_tableIn 36 dX2_compute_1 (by rw [c2]; decide) (by rw [c2]; decide) (by rw [c2]; rfl) (by decide) ?_
      refine ao_iload_n 1 dX2_compute_36 rfl rfl ?_
      refine ao_iload_n 2 dX2_compute_37 rfl rfl ?_
      refine ao_isub dX2_compute_38 ?_
      cases h
      exact ao_ireturn dX2_compute_39 rfl rfl ⟨rfl, rfl⟩
    · replace h := ao_ifF h c2
      by_cases c3 : x0 = (6 : Int32)
      · replace h := ao_ifT h c3
        refine ao_tableIn 40 dX2_compute_1 (by rw [c3]; decide) (by rw [c3]; decide) (by rw [c3]; rfl) (by decide) ?_
        refine ao_iload_n 1 dX2_compute_40 rfl rfl ?_
        refine ao_iload_n 2 dX2_compute_41 rfl rfl ?_
        refine ao_imul dX2_compute_42 ?_
        cases h
        exact ao_ireturn dX2_compute_43 rfl rfl ⟨rfl, rfl⟩
      · replace h := ao_ifF h c3
        by_cases c4 : x0 = (7 : Int32)
        · replace h := ao_ifT h c4
          refine ao_tableIn 44 dX2_compute_1 (by rw [c4]; decide) (by rw [c4]; decide) (by rw [c4]; rfl) (by decide) ?_
          refine ao_iload_n 1 dX2_compute_44 rfl rfl ?_
          refine ao_iload_n 2 dX2_compute_45 rfl rfl ?_
          refine ao_icmp_ne 53 dX2_compute_46 (by decide) (fun c5 => ?_) (fun c5 => ?_)
          · replace h := ao_ifF h c5
            refine ao_iconst (v := 0) dX2_compute_53 (by decide) ?_
            cases h
            exact ao_ireturn dX2_compute_54 rfl rfl ⟨rfl, rfl⟩
          · replace h := ao_ifT h c5
            refine ao_iconst (v := 1) dX2_compute_49 (by decide) ?_
            refine ao_goto 54 dX2_compute_50 (by decide) ?_
            cases h
            exact ao_ireturn dX2_compute_54 rfl rfl ⟨rfl, rfl⟩
        · replace h := ao_ifF h c4
          refine ao_tableOut 55 dX2_compute_1 (by have nc1 := ao_ne (z := 4) c1 (by decide); have nc2 := ao_ne (z := 5) c2 (by decide); have nc3 := ao_ne (z := 6) c3 (by decide); have nc4 := ao_ne (z := 7) c4 (by decide); omega) (by decide) ?_
          refine ao_iload_n 1 dX2_compute_55 rfl rfl ?_
          refine ao_iload_n 2 dX2_compute_56 rfl rfl ?_
          refine ao_icmp_ge 64 dX2_compute_57 (by decide) (fun c6 => ?_) (fun c6 => ?_)
          · replace h := ao_ifT h c6
            refine ao_iconst (v := 0) dX2_compute_64 (by decide) ?_
            cases h
            exact ao_ireturn dX2_compute_65 rfl rfl ⟨rfl, rfl⟩
          · replace h := ao_ifF h c6
            refine ao_iconst (v := 1) dX2_compute_60 (by decide) ?_
            refine ao_goto 65 dX2_compute_61 (by decide) ?_
            cases h
            exact ao_ireturn dX2_compute_65 rfl rfl ⟨rfl, rfl⟩

abbrev uX2_setRegister : ao_Mi := (yX2_setRegister, cX2_setRegister, 3, none, [])
def gX2_setRegister (r0 : Nat) (x1 : Int32) (x2 : Int32) (M : ao_M) (ρ : ao_H) : Option (ao_M) :=
  if x1 < 0 then
    some M
  else
    if (26 : Int32) ≤ x1 then
      some M
    else
      if ρ.2.1 r0 = 17 then
      (ρ.1 r0 6).bind fun j4 =>
      if ρ.2.1 j4 = 0 then
      if ¬ (x1 < 0 ∨ ρ.2.2.1 j4 ≤ x1.toNatClampNeg) then
      ao_let (ao_u M j4 x1.toNatClampNeg x2) fun M7 =>
      some M7
      else none
      else none
      else none
set_option maxRecDepth 100000 in
set_option maxHeartbeats 4000000 in
theorem aX2_setRegister {Γ : ao_C} (d : Nat) (hd : 0 ≤ d) (r0 : Nat) (x1 : Int32) (x2 : Int32) (M : ao_M) (ρ : ao_H) {y : ao_M} (h : gX2_setRegister r0 x1 x2 M ρ = some y) : ao_A Γ uX2_setRegister d 0 0 [.ref (Γ.2.2.2 + r0), .int x1, .int x2] (M, ρ) (ao_PV ρ y) := by
  refine ao_of (by decide) (ao_cat1 (Nat.le_of_ble_eq_true rfl)) (Nat.le_of_ble_eq_true rfl) ?_
  show ao_W Γ uX2_setRegister (ao_rm d 0 0) (ao_Q Γ (ao_PV ρ y) 0 0) 0 0 0 [some (.ref (Γ.2.2.2 + r0)), some (.int x1), some (.int x2)] [] (M, ρ)
  unfold gX2_setRegister at h
  refine ao_iload_n 1 dX2_setRegister_0 rfl rfl ?_
  refine ao_if_lt 17 dX2_setRegister_1 (by decide) (fun c1 => ?_) (fun c1 => ?_)
  · replace h := ao_ifT h c1
    cases h
    exact ao_return dX2_setRegister_17 rfl ⟨rfl, rfl⟩
  · replace h := ao_ifF h c1
    refine ao_iload_n 1 dX2_setRegister_4 rfl rfl ?_
    refine ao_bipush (v := 26) dX2_setRegister_5 (by decide) ?_
    refine ao_icmp_ge 17 dX2_setRegister_7 (by decide) (fun c2 => ?_) (fun c2 => ?_)
    · replace h := ao_ifT h c2
      cases h
      exact ao_return dX2_setRegister_17 rfl ⟨rfl, rfl⟩
    · replace h := ao_ifF h c2
      refine ao_aload_n 0 dX2_setRegister_10 rfl rfl ?_
      obtain ⟨hk3, h⟩ := ao_some h
      obtain ⟨j4, hj4, h⟩ := ao_bind h
      refine an_getR r0 7 6 (q := (RX7, TX7, 20)) dX2_setRegister_11 rfl hk3 (Nat.le_of_ble_eq_true rfl) rfl lf_X2_155 hj4 ?_
      refine ao_iload_n 1 dX2_setRegister_14 rfl rfl ?_
      refine ao_iload_n 2 dX2_setRegister_15 rfl rfl ?_
      obtain ⟨hk5, h⟩ := ao_some h
      obtain ⟨hb6, h⟩ := ao_some h
      refine an_iastore j4 dX2_setRegister_16 hk5 hb6 (fun M7 hM7 => ?_)
      replace h := ao_letD h hM7
      cases h
      exact ao_return dX2_setRegister_17 rfl ⟨rfl, rfl⟩

abbrev uX2_writesAtOnce : ao_Mi := (yX2_writesAtOnce, cX2_writesAtOnce, 1, (some .boolean), [])
def fX2_writesAtOnce : Nat → Nat → Nat →  ao_M → ao_H → Option (Int32 × ao_M)
  | 0, _, _, _, _ => none
  | n + 1, pc, r0, M, ρ =>
    if pc = 0 then
      if ρ.2.1 r0 = 12 then
      if (M r0 5) = (3 : Int32) then
        fX2_writesAtOnce n 16 r0 M ρ
      else
        if (M r0 5) = (4 : Int32) then
          fX2_writesAtOnce n 16 r0 M ρ
        else
          some ((0 : Int32), M)
      else none
    else if pc = 16 then
      some ((1 : Int32), M)
    else none
def gX2_writesAtOnce (n : Nat) (r0 : Nat) (M : ao_M) (ρ : ao_H) : Option (Int32 × ao_M) := fX2_writesAtOnce n 0 r0 M ρ
set_option maxRecDepth 100000 in
set_option maxHeartbeats 4000000 in
theorem wX2_writesAtOnce {Γ : ao_C} {ρ : ao_H} (d : Nat) (hd : 0 ≤ d) : ∀ n : Nat, (∀ (r0 : Nat) (M : ao_M) (y : Int32 × ao_M), fX2_writesAtOnce n 0 r0 M ρ = some y → ao_W Γ uX2_writesAtOnce (ao_rm d 0 0) (ao_Q Γ (ao_PI ρ y) 0 0) 0 0 0 [some (.ref (Γ.2.2.2 + r0))] [] (M, ρ)) ∧ (∀ (r0 : Nat) (M : ao_M) (y : Int32 × ao_M), fX2_writesAtOnce n 16 r0 M ρ = some y → ao_W Γ uX2_writesAtOnce (ao_rm d 0 0) (ao_Q Γ (ao_PI ρ y) 0 0) 0 0 16 [some (.ref (Γ.2.2.2 + r0))] [] (M, ρ)) := by
  intro n
  induction n with
  | zero => exact ⟨fun _ _ _ h => ao_no h, fun _ _ _ h => ao_no h⟩
  | succ n ih =>
    refine ⟨?_, ?_⟩
    · intro r0 M y h
      replace h := ao_ifT h rfl
      refine ao_aload_n 0 dX2_writesAtOnce_0 rfl rfl ?_
      obtain ⟨hk1, h⟩ := ao_some h
      refine an_getI r0 2 5 (q := (RX2, TX2, 7)) dX2_writesAtOnce_1 rfl hk1 (Nat.le_of_ble_eq_true rfl) rfl lf_X2_41 ?_
      refine ao_iconst (v := 3) dX2_writesAtOnce_4 (by decide) ?_
      refine ao_icmp_eq 16 dX2_writesAtOnce_5 (by decide) (fun c2 => ?_) (fun c2 => ?_)
      · replace h := ao_ifT h c2
        exact ih.2 r0 M _ h
      · replace h := ao_ifF h c2
        refine ao_aload_n 0 dX2_writesAtOnce_8 rfl rfl ?_
        refine an_getI r0 2 5 (q := (RX2, TX2, 7)) dX2_writesAtOnce_9 rfl hk1 (Nat.le_of_ble_eq_true rfl) rfl lf_X2_41 ?_
        refine ao_iconst (v := 4) dX2_writesAtOnce_12 (by decide) ?_
        refine ao_icmp_ne 20 dX2_writesAtOnce_13 (by decide) (fun c3 => ?_) (fun c3 => ?_)
        · replace h := ao_ifF h c3
          refine ao_iconst (v := 0) dX2_writesAtOnce_20 (by decide) ?_
          cases h
          exact ao_ireturn dX2_writesAtOnce_21 rfl rfl ⟨rfl, rfl⟩
        · replace h := ao_ifT h c3
          exact ih.2 r0 M _ h
    · intro r0 M y h
      replace h := ao_ifF h (by decide)
      replace h := ao_ifT h rfl
      refine ao_iconst (v := 1) dX2_writesAtOnce_16 (by decide) ?_
      refine ao_goto 21 dX2_writesAtOnce_17 (by decide) ?_
      cases h
      exact ao_ireturn dX2_writesAtOnce_21 rfl rfl ⟨rfl, rfl⟩
set_option maxRecDepth 100000 in
set_option maxHeartbeats 4000000 in
theorem aX2_writesAtOnce {Γ : ao_C} (d : Nat) (hd : 0 ≤ d) (n : Nat) (r0 : Nat) (M : ao_M) (ρ : ao_H) {y : Int32 × ao_M} (h : gX2_writesAtOnce n r0 M ρ = some y) : ao_A Γ uX2_writesAtOnce d 0 0 [.ref (Γ.2.2.2 + r0)] (M, ρ) (ao_PI ρ y) := by
  refine ao_of (by decide) (ao_cat1 (Nat.le_of_ble_eq_true rfl)) (Nat.le_of_ble_eq_true rfl) ?_
  show ao_W Γ uX2_writesAtOnce (ao_rm d 0 0) (ao_Q Γ (ao_PI ρ y) 0 0) 0 0 0 [some (.ref (Γ.2.2.2 + r0))] [] (M, ρ)
  exact (wX2_writesAtOnce d hd n).1 r0 M y h

abbrev uX2_giveBack : ao_Mi := (yX2_giveBack, cX2_giveBack, 3, none, [])
def fX2_giveBack : Nat → Nat → Nat → Nat → Int32 →  ao_M → ao_H → Option (ao_M)
  | 0, _, _, _, _, _, _ => none
  | n + 1, pc, r0, r1, x2, M, ρ =>
    if pc = 0 then
      fX2_giveBack n 2 r0 r1 (0 : Int32) M ρ
    else if pc = 2 then
      if (26 : Int32) ≤ x2 then
        some M
      else
        if ρ.2.1 r1 = 13 then
        if (((M r1 6) >>> (x2 &&& 31)) &&& (1 : Int32)) = 0 then
          fX2_giveBack n 34 r0 r1 x2 M ρ
        else
          if ρ.2.1 r0 = 12 then
          (ρ.1 r0 0).bind fun j5 =>
          if ρ.2.1 j5 = 15 then
          (ρ.1 j5 0).bind fun j7 =>
          (ρ.1 r1 5).bind fun j8 =>
          if ρ.2.1 j8 = 0 then
          if ¬ (x2 < 0 ∨ ρ.2.2.1 j8 ≤ x2.toNatClampNeg) then
          if ρ.2.1 j7 = 0 then
          if ¬ (x2 < 0 ∨ ρ.2.2.1 j7 ≤ x2.toNatClampNeg) then
          ao_let (ao_u M j7 x2.toNatClampNeg (M j8 x2.toNatClampNeg)) fun M13 =>
          fX2_giveBack n 34 r0 r1 x2 M13 ρ
          else none
          else none
          else none
          else none
          else none
          else none
        else none
    else if pc = 34 then
      ao_let (x2 + (1 : Int32)) fun v14 =>
      fX2_giveBack n 2 r0 r1 v14 M ρ
    else none
def gX2_giveBack (n : Nat) (r0 : Nat) (r1 : Nat) (M : ao_M) (ρ : ao_H) : Option (ao_M) := fX2_giveBack n 0 r0 r1 0 M ρ
set_option maxRecDepth 100000 in
set_option maxHeartbeats 4000000 in
theorem wX2_giveBack {Γ : ao_C} {ρ : ao_H} (d : Nat) (hd : 0 ≤ d) : ∀ n : Nat, (∀ (r0 : Nat) (r1 : Nat) (M : ao_M) (y : ao_M), fX2_giveBack n 0 r0 r1 0 M ρ = some y → ao_W Γ uX2_giveBack (ao_rm d 0 0) (ao_Q Γ (ao_PV ρ y) 0 0) 0 0 0 [some (.ref (Γ.2.2.2 + r0)), some (.ref (Γ.2.2.2 + r1)), none] [] (M, ρ)) ∧ (∀ (r0 : Nat) (r1 : Nat) (x2 : Int32) (M : ao_M) (y : ao_M), fX2_giveBack n 2 r0 r1 x2 M ρ = some y → ao_W Γ uX2_giveBack (ao_rm d 0 0) (ao_Q Γ (ao_PV ρ y) 0 0) 0 0 2 [some (.ref (Γ.2.2.2 + r0)), some (.ref (Γ.2.2.2 + r1)), some (.int x2)] [] (M, ρ)) ∧ (∀ (r0 : Nat) (r1 : Nat) (x2 : Int32) (M : ao_M) (y : ao_M), fX2_giveBack n 34 r0 r1 x2 M ρ = some y → ao_W Γ uX2_giveBack (ao_rm d 0 0) (ao_Q Γ (ao_PV ρ y) 0 0) 0 0 34 [some (.ref (Γ.2.2.2 + r0)), some (.ref (Γ.2.2.2 + r1)), some (.int x2)] [] (M, ρ)) := by
  intro n
  induction n with
  | zero => exact ⟨fun _ _ _ _ h => ao_no h, fun _ _ _ _ _ h => ao_no h, fun _ _ _ _ _ h => ao_no h⟩
  | succ n ih =>
    refine ⟨?_, ?_, ?_⟩
    · intro r0 r1 M y h
      replace h := ao_ifT h rfl
      refine ao_iconst (v := 0) dX2_giveBack_0 (by decide) ?_
      refine ao_istore_n 2 (lo' := [some (.ref (Γ.2.2.2 + r0)), some (.ref (Γ.2.2.2 + r1)), some (.int (0 : Int32))]) dX2_giveBack_1 rfl (Nat.le_of_ble_eq_true rfl) rfl ?_
      exact ih.2.1 r0 r1 (0 : Int32) M _ h
    · intro r0 r1 x2 M y h
      replace h := ao_ifF h (by decide)
      replace h := ao_ifT h rfl
      refine ao_iload_n 2 dX2_giveBack_2 rfl rfl ?_
      refine ao_bipush (v := 26) dX2_giveBack_3 (by decide) ?_
      refine ao_icmp_ge 40 dX2_giveBack_5 (by decide) (fun c1 => ?_) (fun c1 => ?_)
      · replace h := ao_ifT h c1
        cases h
        exact ao_return dX2_giveBack_40 rfl ⟨rfl, rfl⟩
      · replace h := ao_ifF h c1
        refine ao_aload_n 1 dX2_giveBack_8 rfl rfl ?_
        obtain ⟨hk2, h⟩ := ao_some h
        refine an_getI r1 3 6 (q := (RX3, TX3, 12)) dX2_giveBack_9 rfl hk2 (Nat.le_of_ble_eq_true rfl) rfl lf_X2_304 ?_
        refine ao_iload_n 2 dX2_giveBack_12 rfl rfl ?_
        refine ao_ishr dX2_giveBack_13 ?_
        refine ao_iconst (v := 1) dX2_giveBack_14 (by decide) ?_
        refine ao_iand dX2_giveBack_15 ?_
        refine ao_if_eq 34 dX2_giveBack_16 (by decide) (fun c3 => ?_) (fun c3 => ?_)
        · replace h := ao_ifT h c3
          exact ih.2.2 r0 r1 x2 M _ h
        · replace h := ao_ifF h c3
          refine ao_aload_n 0 dX2_giveBack_19 rfl rfl ?_
          obtain ⟨hk4, h⟩ := ao_some h
          obtain ⟨j5, hj5, h⟩ := ao_bind h
          refine an_getR r0 2 0 (q := (RX2, TX2, 7)) dX2_giveBack_20 rfl hk4 (Nat.le_of_ble_eq_true rfl) rfl lf_X2_12 hj5 ?_
          obtain ⟨hk6, h⟩ := ao_some h
          obtain ⟨j7, hj7, h⟩ := ao_bind h
          refine an_getR j5 5 0 (q := (RX5, TX5, 11)) dX2_giveBack_23 rfl hk6 (Nat.le_of_ble_eq_true rfl) rfl lf_X2_188 hj7 ?_
          refine ao_iload_n 2 dX2_giveBack_26 rfl rfl ?_
          refine ao_aload_n 1 dX2_giveBack_27 rfl rfl ?_
          obtain ⟨j8, hj8, h⟩ := ao_bind h
          refine an_getR r1 3 5 (q := (RX3, TX3, 12)) dX2_giveBack_28 rfl hk2 (Nat.le_of_ble_eq_true rfl) rfl lf_X2_221 hj8 ?_
          refine ao_iload_n 2 dX2_giveBack_31 rfl rfl ?_
          obtain ⟨hk9, h⟩ := ao_some h
          obtain ⟨hb10, h⟩ := ao_some h
          refine an_iaload j8 dX2_giveBack_32 hk9 hb10 ?_
          obtain ⟨hk11, h⟩ := ao_some h
          obtain ⟨hb12, h⟩ := ao_some h
          refine an_iastore j7 dX2_giveBack_33 hk11 hb12 (fun M13 hM13 => ?_)
          replace h := ao_letD h hM13
          exact ih.2.2 r0 r1 x2 M13 _ h
    · intro r0 r1 x2 M y h
      replace h := ao_ifF h (by decide)
      replace h := ao_ifF h (by decide)
      replace h := ao_ifT h rfl
      obtain ⟨v14, hv14⟩ : ∃ z : Int32, z = x2 + (1 : Int32) := ⟨_, rfl⟩
      replace h := ao_letD h hv14
      refine ao_iinc 2 (v := v14) (lo' := [some (.ref (Γ.2.2.2 + r0)), some (.ref (Γ.2.2.2 + r1)), some (.int v14)]) dX2_giveBack_34 rfl (by rw [hv14]; rfl) (Nat.le_of_ble_eq_true rfl) rfl ?_
      refine ao_goto 2 dX2_giveBack_37 (by decide) ?_
      exact ih.2.1 r0 r1 v14 M _ h
set_option maxRecDepth 100000 in
set_option maxHeartbeats 4000000 in
theorem aX2_giveBack {Γ : ao_C} (d : Nat) (hd : 0 ≤ d) (n : Nat) (r0 : Nat) (r1 : Nat) (M : ao_M) (ρ : ao_H) {y : ao_M} (h : gX2_giveBack n r0 r1 M ρ = some y) : ao_A Γ uX2_giveBack d 0 0 [.ref (Γ.2.2.2 + r0), .ref (Γ.2.2.2 + r1)] (M, ρ) (ao_PV ρ y) := by
  refine ao_of (by decide) (ao_cat1 (Nat.le_of_ble_eq_true rfl)) (Nat.le_of_ble_eq_true rfl) ?_
  show ao_W Γ uX2_giveBack (ao_rm d 0 0) (ao_Q Γ (ao_PV ρ y) 0 0) 0 0 0 [some (.ref (Γ.2.2.2 + r0)), some (.ref (Γ.2.2.2 + r1)), none] [] (M, ρ)
  exact (wX2_giveBack d hd n).1 r0 r1 M y h

abbrev uX2_isBusy : ao_Mi := (yX2_isBusy, cX2_isBusy, 2, (some .boolean), [])
def fX2_isBusy : Nat → Nat → Nat → Nat → Int32 → Int32 →  ao_M → ao_H → Option (Int32 × ao_M)
  | 0, _, _, _, _, _, _, _ => none
  | n + 1, pc, r0, r1, s0, s1, M, ρ =>
    if pc = 0 then
      if ρ.2.1 r0 = 12 then
      if (M r0 5) = (4 : Int32) then
        (gX2_howManyAre n r0 (2 : Int32) M ρ).bind fun p3 =>
        if ρ.2.1 r1 = 17 then
        if (p3.2 r1 2) = (2 : Int32) then
          fX2_isBusy n 26 r0 r1 (1 : Int32) p3.1 p3.2 ρ
        else
          fX2_isBusy n 26 r0 r1 (0 : Int32) p3.1 p3.2 ρ
        else none
      else
        some ((0 : Int32), M)
      else none
    else if pc = 26 then
      if s1 ≤ s0 then
        some ((0 : Int32), M)
      else
        some ((1 : Int32), M)
    else none
def gX2_isBusy (n : Nat) (r0 : Nat) (r1 : Nat) (M : ao_M) (ρ : ao_H) : Option (Int32 × ao_M) := fX2_isBusy n 0 r0 r1 0 0 M ρ
set_option maxRecDepth 100000 in
set_option maxHeartbeats 4000000 in
theorem wX2_isBusy {Γ : ao_C} {ρ : ao_H} (d : Nat) (hd : 1 ≤ d) : ∀ n : Nat, (∀ (r0 : Nat) (r1 : Nat) (M : ao_M) (y : Int32 × ao_M), fX2_isBusy n 0 r0 r1 0 0 M ρ = some y → ao_W Γ uX2_isBusy (ao_rm d 0 0) (ao_Q Γ (ao_PI ρ y) 0 0) 0 0 0 [some (.ref (Γ.2.2.2 + r0)), some (.ref (Γ.2.2.2 + r1))] [] (M, ρ)) ∧ (∀ (r0 : Nat) (r1 : Nat) (s0 : Int32) (s1 : Int32) (M : ao_M) (y : Int32 × ao_M), fX2_isBusy n 26 r0 r1 s0 s1 M ρ = some y → ao_W Γ uX2_isBusy (ao_rm d 0 0) (ao_Q Γ (ao_PI ρ y) 0 0) 0 0 26 [some (.ref (Γ.2.2.2 + r0)), some (.ref (Γ.2.2.2 + r1))] [.int s0, .int s1] (M, ρ)) := by
  intro n
  induction n with
  | zero => exact ⟨fun _ _ _ _ h => ao_no h, fun _ _ _ _ _ _ h => ao_no h⟩
  | succ n ih =>
    refine ⟨?_, ?_⟩
    · intro r0 r1 M y h
      replace h := ao_ifT h rfl
      refine ao_aload_n 0 dX2_isBusy_0 rfl rfl ?_
      obtain ⟨hk1, h⟩ := ao_some h
      refine an_getI r0 2 5 (q := (RX2, TX2, 7)) dX2_isBusy_1 rfl hk1 (Nat.le_of_ble_eq_true rfl) rfl lf_X2_41 ?_
      refine ao_iconst (v := 4) dX2_isBusy_4 (by decide) ?_
      refine ao_icmp_ne 33 dX2_isBusy_5 (by decide) (fun c2 => ?_) (fun c2 => ?_)
      · replace h := ao_ifF h c2
        refine ao_iconst (v := 0) dX2_isBusy_33 (by decide) ?_
        cases h
        exact ao_ireturn dX2_isBusy_34 rfl rfl ⟨rfl, rfl⟩
      · replace h := ao_ifT h c2
        refine ao_aload_n 0 dX2_isBusy_8 rfl rfl ?_
        refine ao_iconst (v := 2) dX2_isBusy_9 (by decide) ?_
        obtain ⟨p3, hp3, h⟩ := ao_bind h
        refine an_callVi r0 2 (q := (RX2, TX2, 7)) [.int (2 : Int32)] (aX2_howManyAre (d - 1) (by omega) _ r0 (2 : Int32) M ρ hp3) dX2_isBusy_10 lc_X2_65 li_X2_howManyAre ls_X2_howManyAre rfl hk1 rfl rfl (Nat.le_of_ble_eq_true rfl) (ao_hR (by omega) (by decide)) ?_
        refine ao_aload_n 1 dX2_isBusy_13 rfl rfl ?_
        obtain ⟨hk4, h⟩ := ao_some h
        refine an_getI r1 7 2 (q := (RX7, TX7, 20)) dX2_isBusy_14 rfl hk4 (Nat.le_of_ble_eq_true rfl) rfl lf_X2_55 ?_
        refine ao_iconst (v := 2) dX2_isBusy_17 (by decide) ?_
        refine ao_icmp_ne 25 dX2_isBusy_18 (by decide) (fun c5 => ?_) (fun c5 => ?_)
        · replace h := ao_ifF h c5
          refine ao_iconst (v := 0) dX2_isBusy_25 (by decide) ?_
          exact ih.2 r0 r1 (0 : Int32) p3.1 p3.2 _ h
        · replace h := ao_ifT h c5
          refine ao_iconst (v := 1) dX2_isBusy_21 (by decide) ?_
          refine ao_goto 26 dX2_isBusy_22 (by decide) ?_
          exact ih.2 r0 r1 (1 : Int32) p3.1 p3.2 _ h
    · intro r0 r1 s0 s1 M y h
      replace h := ao_ifF h (by decide)
      replace h := ao_ifT h rfl
      refine ao_icmp_le 33 dX2_isBusy_26 (by decide) (fun c6 => ?_) (fun c6 => ?_)
      · replace h := ao_ifT h c6
        refine ao_iconst (v := 0) dX2_isBusy_33 (by decide) ?_
        cases h
        exact ao_ireturn dX2_isBusy_34 rfl rfl ⟨rfl, rfl⟩
      · replace h := ao_ifF h c6
        refine ao_iconst (v := 1) dX2_isBusy_29 (by decide) ?_
        refine ao_goto 34 dX2_isBusy_30 (by decide) ?_
        cases h
        exact ao_ireturn dX2_isBusy_34 rfl rfl ⟨rfl, rfl⟩
set_option maxRecDepth 100000 in
set_option maxHeartbeats 4000000 in
theorem aX2_isBusy {Γ : ao_C} (d : Nat) (hd : 1 ≤ d) (n : Nat) (r0 : Nat) (r1 : Nat) (M : ao_M) (ρ : ao_H) {y : Int32 × ao_M} (h : gX2_isBusy n r0 r1 M ρ = some y) : ao_A Γ uX2_isBusy d 0 0 [.ref (Γ.2.2.2 + r0), .ref (Γ.2.2.2 + r1)] (M, ρ) (ao_PI ρ y) := by
  refine ao_of (by decide) (ao_cat1 (Nat.le_of_ble_eq_true rfl)) (Nat.le_of_ble_eq_true rfl) ?_
  show ao_W Γ uX2_isBusy (ao_rm d 0 0) (ao_Q Γ (ao_PI ρ y) 0 0) 0 0 0 [some (.ref (Γ.2.2.2 + r0)), some (.ref (Γ.2.2.2 + r1))] [] (M, ρ)
  exact (wX2_isBusy d hd n).1 r0 r1 M y h

abbrev uX2_tellOf : ao_Mi := (yX2_tellOf, cX2_tellOf, 2, (some .int), [])
def gX2_tellOf (n : Nat) (r0 : Nat) (x1 : Int32) (M : ao_M) (ρ : ao_H) : Option (Int32 × ao_M) :=
  if x1 = (1 : Int32) then
    if ρ.2.1 r0 = 12 then
    some ((M r0 5), M)
    else none
  else
    if x1 = (2 : Int32) then
      if ρ.2.1 r0 = 12 then
      (ρ.1 r0 0).bind fun j5 =>
      if ρ.2.1 j5 = 15 then
      some ((M j5 4), M)
      else none
      else none
    else
      if x1 = (3 : Int32) then
        if ρ.2.1 r0 = 12 then
        some ((M r0 4), M)
        else none
      else
        if x1 = (4 : Int32) then
          if ρ.2.1 r0 = 12 then
          (ρ.1 r0 2).bind fun j11 =>
          if ρ.2.1 j11 = 18 then
          some ((M j11 2), M)
          else none
          else none
        else
          if x1 = (5 : Int32) then
            if ρ.2.1 r0 = 12 then
            (ρ.1 r0 3).bind fun j15 =>
            if ρ.2.1 j15 = 16 then
            some ((M j15 9), M)
            else none
            else none
          else
            if x1 = (6 : Int32) then
              if ρ.2.1 r0 = 12 then
              (gX2_howManyAre n r0 (2 : Int32) M ρ).bind fun p19 =>
              some (p19.1, p19.2)
              else none
            else
              if x1 = (7 : Int32) then
                if ρ.2.1 r0 = 12 then
                (gX2_howManyAre n r0 (3 : Int32) M ρ).bind fun p22 =>
                some (p22.1, p22.2)
                else none
              else
                if ρ.2.1 r0 = 12 then
                (ρ.1 r0 0).bind fun j24 =>
                if ρ.2.1 j24 = 15 then
                (gX5_howManyTaken n j24 M ρ).bind fun p26 =>
                some (p26.1, p26.2)
                else none
                else none
set_option maxRecDepth 100000 in
set_option maxHeartbeats 4000000 in
theorem aX2_tellOf {Γ : ao_C} (d : Nat) (hd : 1 ≤ d) (n : Nat) (r0 : Nat) (x1 : Int32) (M : ao_M) (ρ : ao_H) {y : Int32 × ao_M} (h : gX2_tellOf n r0 x1 M ρ = some y) : ao_A Γ uX2_tellOf d 0 0 [.ref (Γ.2.2.2 + r0), .int x1] (M, ρ) (ao_PI ρ y) := by
  refine ao_of (by decide) (ao_cat1 (Nat.le_of_ble_eq_true rfl)) (Nat.le_of_ble_eq_true rfl) ?_
  show ao_W Γ uX2_tellOf (ao_rm d 0 0) (ao_Q Γ (ao_PI ρ y) 0 0) 0 0 0 [some (.ref (Γ.2.2.2 + r0)), some (.int x1)] [] (M, ρ)
  unfold gX2_tellOf at h
  refine ao_iload_n 1 dX2_tellOf_0 rfl rfl ?_
  by_cases c1 : x1 = (1 : Int32)
  · replace h := ao_ifT h c1
    refine ao_tableIn 44 dX2_tellOf_1 (by rw [c1]; decide) (by rw [c1]; decide) (by rw [c1]; rfl) (by decide) ?_
    refine ao_aload_n 0 dX2_tellOf_44 rfl rfl ?_
    obtain ⟨hk2, h⟩ := ao_some h
    refine an_getI r0 2 5 (q := (RX2, TX2, 7)) dX2_tellOf_45 rfl hk2 (Nat.le_of_ble_eq_true rfl) rfl lf_X2_41 ?_
    cases h
    exact ao_ireturn dX2_tellOf_48 rfl rfl ⟨rfl, rfl⟩
  · replace h := ao_ifF h c1
    by_cases c3 : x1 = (2 : Int32)
    · replace h := ao_ifT h c3
      refine ao_tableIn 49 dX2_tellOf_1 (by rw [c3]; decide) (by rw [c3]; decide) (by rw [c3]; rfl) (by decide) ?_
      refine ao_aload_n 0 dX2_tellOf_49 rfl rfl ?_
      obtain ⟨hk4, h⟩ := ao_some h
      obtain ⟨j5, hj5, h⟩ := ao_bind h
      refine an_getR r0 2 0 (q := (RX2, TX2, 7)) dX2_tellOf_50 rfl hk4 (Nat.le_of_ble_eq_true rfl) rfl lf_X2_12 hj5 ?_
      obtain ⟨hk6, h⟩ := ao_some h
      refine an_getI j5 5 4 (q := (RX5, TX5, 11)) dX2_tellOf_53 rfl hk6 (Nat.le_of_ble_eq_true rfl) rfl lf_X2_61 ?_
      cases h
      exact ao_ireturn dX2_tellOf_56 rfl rfl ⟨rfl, rfl⟩
    · replace h := ao_ifF h c3
      by_cases c7 : x1 = (3 : Int32)
      · replace h := ao_ifT h c7
        refine ao_tableIn 57 dX2_tellOf_1 (by rw [c7]; decide) (by rw [c7]; decide) (by rw [c7]; rfl) (by decide) ?_
        refine ao_aload_n 0 dX2_tellOf_57 rfl rfl ?_
        obtain ⟨hk8, h⟩ := ao_some h
        refine an_getI r0 2 4 (q := (RX2, TX2, 7)) dX2_tellOf_58 rfl hk8 (Nat.le_of_ble_eq_true rfl) rfl lf_X2_45 ?_
        cases h
        exact ao_ireturn dX2_tellOf_61 rfl rfl ⟨rfl, rfl⟩
      · replace h := ao_ifF h c7
        by_cases c9 : x1 = (4 : Int32)
        · replace h := ao_ifT h c9
          refine ao_tableIn 62 dX2_tellOf_1 (by rw [c9]; decide) (by rw [c9]; decide) (by rw [c9]; rfl) (by decide) ?_
          refine ao_aload_n 0 dX2_tellOf_62 rfl rfl ?_
          obtain ⟨hk10, h⟩ := ao_some h
          obtain ⟨j11, hj11, h⟩ := ao_bind h
          refine an_getR r0 2 2 (q := (RX2, TX2, 7)) dX2_tellOf_63 rfl hk10 (Nat.le_of_ble_eq_true rfl) rfl lf_X2_21 hj11 ?_
          obtain ⟨hk12, h⟩ := ao_some h
          refine an_getI j11 8 2 (q := (RX8, TX8, 3)) dX2_tellOf_66 rfl hk12 (Nat.le_of_ble_eq_true rfl) rfl lf_X2_51 ?_
          cases h
          exact ao_ireturn dX2_tellOf_69 rfl rfl ⟨rfl, rfl⟩
        · replace h := ao_ifF h c9
          by_cases c13 : x1 = (5 : Int32)
          · replace h := ao_ifT h c13
            refine ao_tableIn 70 dX2_tellOf_1 (by rw [c13]; decide) (by rw [c13]; decide) (by rw [c13]; rfl) (by decide) ?_
            refine ao_aload_n 0 dX2_tellOf_70 rfl rfl ?_
            obtain ⟨hk14, h⟩ := ao_some h
            obtain ⟨j15, hj15, h⟩ := ao_bind h
            refine an_getR r0 2 3 (q := (RX2, TX2, 7)) dX2_tellOf_71 rfl hk14 (Nat.le_of_ble_eq_true rfl) rfl lf_X2_28 hj15 ?_
            obtain ⟨hk16, h⟩ := ao_some h
            refine an_getI j15 6 9 (q := (RX6, TX6, 11)) dX2_tellOf_74 rfl hk16 (Nat.le_of_ble_eq_true rfl) rfl lf_X2_64 ?_
            cases h
            exact ao_ireturn dX2_tellOf_77 rfl rfl ⟨rfl, rfl⟩
          · replace h := ao_ifF h c13
            by_cases c17 : x1 = (6 : Int32)
            · replace h := ao_ifT h c17
              refine ao_tableIn 78 dX2_tellOf_1 (by rw [c17]; decide) (by rw [c17]; decide) (by rw [c17]; rfl) (by decide) ?_
              refine ao_aload_n 0 dX2_tellOf_78 rfl rfl ?_
              refine ao_iconst (v := 2) dX2_tellOf_79 (by decide) ?_
              obtain ⟨hk18, h⟩ := ao_some h
              obtain ⟨p19, hp19, h⟩ := ao_bind h
              refine an_callVi r0 2 (q := (RX2, TX2, 7)) [.int (2 : Int32)] (aX2_howManyAre (d - 1) (by omega) _ r0 (2 : Int32) M ρ hp19) dX2_tellOf_80 lc_X2_65 li_X2_howManyAre ls_X2_howManyAre rfl hk18 rfl rfl (Nat.le_of_ble_eq_true rfl) (ao_hR (by omega) (by decide)) ?_
              cases h
              exact ao_ireturn dX2_tellOf_83 rfl rfl ⟨rfl, rfl⟩
            · replace h := ao_ifF h c17
              by_cases c20 : x1 = (7 : Int32)
              · replace h := ao_ifT h c20
                refine ao_tableIn 84 dX2_tellOf_1 (by rw [c20]; decide) (by rw [c20]; decide) (by rw [c20]; rfl) (by decide) ?_
                refine ao_aload_n 0 dX2_tellOf_84 rfl rfl ?_
                refine ao_iconst (v := 3) dX2_tellOf_85 (by decide) ?_
                obtain ⟨hk21, h⟩ := ao_some h
                obtain ⟨p22, hp22, h⟩ := ao_bind h
                refine an_callVi r0 2 (q := (RX2, TX2, 7)) [.int (3 : Int32)] (aX2_howManyAre (d - 1) (by omega) _ r0 (3 : Int32) M ρ hp22) dX2_tellOf_86 lc_X2_65 li_X2_howManyAre ls_X2_howManyAre rfl hk21 rfl rfl (Nat.le_of_ble_eq_true rfl) (ao_hR (by omega) (by decide)) ?_
                cases h
                exact ao_ireturn dX2_tellOf_89 rfl rfl ⟨rfl, rfl⟩
              · replace h := ao_ifF h c20
                refine ao_tableOut 90 dX2_tellOf_1 (by have nc1 := ao_ne (z := 1) c1 (by decide); have nc3 := ao_ne (z := 2) c3 (by decide); have nc7 := ao_ne (z := 3) c7 (by decide); have nc9 := ao_ne (z := 4) c9 (by decide); have nc13 := ao_ne (z := 5) c13 (by decide); have nc17 := ao_ne (z := 6) c17 (by decide); have nc20 := ao_ne (z := 7) c20 (by decide); omega) (by decide) ?_
                refine ao_aload_n 0 dX2_tellOf_90 rfl rfl ?_
                obtain ⟨hk23, h⟩ := ao_some h
                obtain ⟨j24, hj24, h⟩ := ao_bind h
                refine an_getR r0 2 0 (q := (RX2, TX2, 7)) dX2_tellOf_91 rfl hk23 (Nat.le_of_ble_eq_true rfl) rfl lf_X2_12 hj24 ?_
                obtain ⟨hk25, h⟩ := ao_some h
                obtain ⟨p26, hp26, h⟩ := ao_bind h
                refine an_callVi j24 5 (q := (RX5, TX5, 11)) [] (aX5_howManyTaken (d - 1) (by omega) _ j24 M ρ hp26) dX2_tellOf_94 lc_X2_69 li_X5_howManyTaken ls_X5_howManyTaken rfl hk25 rfl rfl (Nat.le_of_ble_eq_true rfl) (ao_hR (by omega) (by decide)) ?_
                cases h
                exact ao_ireturn dX2_tellOf_97 rfl rfl ⟨rfl, rfl⟩

abbrev uX2_howManyAreLeft : ao_Mi := (yX2_howManyAreLeft, cX2_howManyAreLeft, 3, (some .int), [])
def fX2_howManyAreLeft : Nat → Nat → Nat → Int32 → Int32 →  ao_M → ao_H → Option (Int32 × ao_M)
  | 0, _, _, _, _, _, _ => none
  | n + 1, pc, r0, x1, x2, M, ρ =>
    if pc = 0 then
      fX2_howManyAreLeft n 4 r0 (0 : Int32) (0 : Int32) M ρ
    else if pc = 4 then
      if (6 : Int32) ≤ x2 then
        some (x1, M)
      else
        if ρ.2.1 r0 = 12 then
        (ρ.1 r0 1).bind fun j3 =>
        if ρ.2.1 j3 = 4 then
        if ¬ (x2 < 0 ∨ ρ.2.2.1 j3 ≤ x2.toNatClampNeg) then
        (ρ.1 j3 x2.toNatClampNeg).bind fun j6 =>
        if ρ.2.1 j6 = 17 then
        (gX7_isLeft n j6 M ρ).bind fun p8 =>
        if p8.1 = 0 then
          fX2_howManyAreLeft n 25 r0 x1 x2 p8.2 ρ
        else
          ao_let (x1 + (1 : Int32)) fun v10 =>
          fX2_howManyAreLeft n 25 r0 v10 x2 p8.2 ρ
        else none
        else none
        else none
        else none
    else if pc = 25 then
      ao_let (x2 + (1 : Int32)) fun v11 =>
      fX2_howManyAreLeft n 4 r0 x1 v11 M ρ
    else none
def gX2_howManyAreLeft (n : Nat) (r0 : Nat) (M : ao_M) (ρ : ao_H) : Option (Int32 × ao_M) := fX2_howManyAreLeft n 0 r0 0 0 M ρ
set_option maxRecDepth 100000 in
set_option maxHeartbeats 4000000 in
theorem wX2_howManyAreLeft {Γ : ao_C} {ρ : ao_H} (d : Nat) (hd : 1 ≤ d) : ∀ n : Nat, (∀ (r0 : Nat) (M : ao_M) (y : Int32 × ao_M), fX2_howManyAreLeft n 0 r0 0 0 M ρ = some y → ao_W Γ uX2_howManyAreLeft (ao_rm d 0 0) (ao_Q Γ (ao_PI ρ y) 0 0) 0 0 0 [some (.ref (Γ.2.2.2 + r0)), none, none] [] (M, ρ)) ∧ (∀ (r0 : Nat) (x1 : Int32) (x2 : Int32) (M : ao_M) (y : Int32 × ao_M), fX2_howManyAreLeft n 4 r0 x1 x2 M ρ = some y → ao_W Γ uX2_howManyAreLeft (ao_rm d 0 0) (ao_Q Γ (ao_PI ρ y) 0 0) 0 0 4 [some (.ref (Γ.2.2.2 + r0)), some (.int x1), some (.int x2)] [] (M, ρ)) ∧ (∀ (r0 : Nat) (x1 : Int32) (x2 : Int32) (M : ao_M) (y : Int32 × ao_M), fX2_howManyAreLeft n 25 r0 x1 x2 M ρ = some y → ao_W Γ uX2_howManyAreLeft (ao_rm d 0 0) (ao_Q Γ (ao_PI ρ y) 0 0) 0 0 25 [some (.ref (Γ.2.2.2 + r0)), some (.int x1), some (.int x2)] [] (M, ρ)) := by
  intro n
  induction n with
  | zero => exact ⟨fun _ _ _ h => ao_no h, fun _ _ _ _ _ h => ao_no h, fun _ _ _ _ _ h => ao_no h⟩
  | succ n ih =>
    refine ⟨?_, ?_, ?_⟩
    · intro r0 M y h
      replace h := ao_ifT h rfl
      refine ao_iconst (v := 0) dX2_howManyAreLeft_0 (by decide) ?_
      refine ao_istore_n 1 (lo' := [some (.ref (Γ.2.2.2 + r0)), some (.int (0 : Int32)), none]) dX2_howManyAreLeft_1 rfl (Nat.le_of_ble_eq_true rfl) rfl ?_
      refine ao_iconst (v := 0) dX2_howManyAreLeft_2 (by decide) ?_
      refine ao_istore_n 2 (lo' := [some (.ref (Γ.2.2.2 + r0)), some (.int (0 : Int32)), some (.int (0 : Int32))]) dX2_howManyAreLeft_3 rfl (Nat.le_of_ble_eq_true rfl) rfl ?_
      exact ih.2.1 r0 (0 : Int32) (0 : Int32) M _ h
    · intro r0 x1 x2 M y h
      replace h := ao_ifF h (by decide)
      replace h := ao_ifT h rfl
      refine ao_iload_n 2 dX2_howManyAreLeft_4 rfl rfl ?_
      refine ao_bipush (v := 6) dX2_howManyAreLeft_5 (by decide) ?_
      refine ao_icmp_ge 31 dX2_howManyAreLeft_7 (by decide) (fun c1 => ?_) (fun c1 => ?_)
      · replace h := ao_ifT h c1
        refine ao_iload_n 1 dX2_howManyAreLeft_31 rfl rfl ?_
        cases h
        exact ao_ireturn dX2_howManyAreLeft_32 rfl rfl ⟨rfl, rfl⟩
      · replace h := ao_ifF h c1
        refine ao_aload_n 0 dX2_howManyAreLeft_10 rfl rfl ?_
        obtain ⟨hk2, h⟩ := ao_some h
        obtain ⟨j3, hj3, h⟩ := ao_bind h
        refine an_getR r0 2 1 (q := (RX2, TX2, 7)) dX2_howManyAreLeft_11 rfl hk2 (Nat.le_of_ble_eq_true rfl) rfl lf_X2_34 hj3 ?_
        refine ao_iload_n 2 dX2_howManyAreLeft_14 rfl rfl ?_
        obtain ⟨hk4, h⟩ := ao_some h
        obtain ⟨hb5, h⟩ := ao_some h
        obtain ⟨j6, hj6, h⟩ := ao_bind h
        refine an_aaload j3 4 dX2_howManyAreLeft_15 hk4 (by decide) hb5 hj6 ?_
        obtain ⟨hk7, h⟩ := ao_some h
        obtain ⟨p8, hp8, h⟩ := ao_bind h
        refine an_callVi j6 7 (q := (RX7, TX7, 20)) [] (aX7_isLeft (d - 1) (by omega) _ j6 M ρ hp8) dX2_howManyAreLeft_16 lc_X2_73 li_X7_isLeft ls_X7_isLeft rfl hk7 rfl rfl (Nat.le_of_ble_eq_true rfl) (ao_hR (by omega) (by decide)) ?_
        refine ao_if_eq 25 dX2_howManyAreLeft_19 (by decide) (fun c9 => ?_) (fun c9 => ?_)
        · replace h := ao_ifT h c9
          exact ih.2.2 r0 x1 x2 p8.2 _ h
        · replace h := ao_ifF h c9
          obtain ⟨v10, hv10⟩ : ∃ z : Int32, z = x1 + (1 : Int32) := ⟨_, rfl⟩
          replace h := ao_letD h hv10
          refine ao_iinc 1 (v := v10) (lo' := [some (.ref (Γ.2.2.2 + r0)), some (.int v10), some (.int x2)]) dX2_howManyAreLeft_22 rfl (by rw [hv10]; rfl) (Nat.le_of_ble_eq_true rfl) rfl ?_
          exact ih.2.2 r0 v10 x2 p8.2 _ h
    · intro r0 x1 x2 M y h
      replace h := ao_ifF h (by decide)
      replace h := ao_ifF h (by decide)
      replace h := ao_ifT h rfl
      obtain ⟨v11, hv11⟩ : ∃ z : Int32, z = x2 + (1 : Int32) := ⟨_, rfl⟩
      replace h := ao_letD h hv11
      refine ao_iinc 2 (v := v11) (lo' := [some (.ref (Γ.2.2.2 + r0)), some (.int x1), some (.int v11)]) dX2_howManyAreLeft_25 rfl (by rw [hv11]; rfl) (Nat.le_of_ble_eq_true rfl) rfl ?_
      refine ao_goto 4 dX2_howManyAreLeft_28 (by decide) ?_
      exact ih.2.1 r0 x1 v11 M _ h
set_option maxRecDepth 100000 in
set_option maxHeartbeats 4000000 in
theorem aX2_howManyAreLeft {Γ : ao_C} (d : Nat) (hd : 1 ≤ d) (n : Nat) (r0 : Nat) (M : ao_M) (ρ : ao_H) {y : Int32 × ao_M} (h : gX2_howManyAreLeft n r0 M ρ = some y) : ao_A Γ uX2_howManyAreLeft d 0 0 [.ref (Γ.2.2.2 + r0)] (M, ρ) (ao_PI ρ y) := by
  refine ao_of (by decide) (ao_cat1 (Nat.le_of_ble_eq_true rfl)) (Nat.le_of_ble_eq_true rfl) ?_
  show ao_W Γ uX2_howManyAreLeft (ao_rm d 0 0) (ao_Q Γ (ao_PI ρ y) 0 0) 0 0 0 [some (.ref (Γ.2.2.2 + r0)), none, none] [] (M, ρ)
  exact (wX2_howManyAreLeft d hd n).1 r0 M y h

abbrev uX2_onTheWay : ao_Mi := (yX2_onTheWay, cX2_onTheWay, 4, none, [])
def fX2_onTheWay : Nat → Nat → Nat → Int32 → Int32 → Nat → Int32 → Nat →  ao_M → ao_H → Option (ao_M)
  | 0, _, _, _, _, _, _, _, _, _ => none
  | n + 1, pc, r0, x1, x2, q0, s0, q1, M, ρ =>
    if pc = 0 then
      if x1 = (0 : Int32) then
        some M
      else
        if x1 = (1 : Int32) then
          if ρ.2.1 r0 = 17 then
          (gX7_push r0 x2 M ρ).bind fun p4 =>
          some p4
          else none
        else
          if x1 = (2 : Int32) then
            if x2 < 0 then
              fX2_onTheWay n 100 r0 x1 x2 r0 0 0 M ρ
            else
              if (26 : Int32) ≤ x2 then
                fX2_onTheWay n 100 r0 x1 x2 r0 0 0 M ρ
              else
                if ρ.2.1 r0 = 17 then
                (ρ.1 r0 6).bind fun j9 =>
                if ρ.2.1 j9 = 0 then
                if ¬ (x2 < 0 ∨ ρ.2.2.1 j9 ≤ x2.toNatClampNeg) then
                fX2_onTheWay n 101 r0 x1 x2 0 (M j9 x2.toNatClampNeg) r0 M ρ
                else none
                else none
                else none
          else
            if x1 = (9 : Int32) then
              if ρ.2.1 r0 = 17 then
              (gX7_pop r0 M ρ).bind fun p14 =>
              (gX7_push r0 (-p14.1) p14.2 ρ).bind fun p15 =>
              some p15
              else none
            else
              if x1 = (10 : Int32) then
                if ρ.2.1 r0 = 17 then
                (gX7_pop r0 M ρ).bind fun p18 =>
                (gX2_setRegister r0 x2 p18.1 p18.2 ρ).bind fun p19 =>
                some p19
                else none
              else
                if x1 = (12 : Int32) then
                  if ρ.2.1 r0 = 17 then
                  ao_let (ao_u M r0 3 x2) fun M22 =>
                  some M22
                  else none
                else
                  if x1 = (13 : Int32) then
                    if ρ.2.1 r0 = 17 then
                    (gX7_pop r0 M ρ).bind fun p25 =>
                    if p25.1 = 0 then
                      ao_let (ao_u p25.2 r0 3 x2) fun M27 =>
                      some M27
                    else
                      some p25.2
                    else none
                  else
                    fX2_onTheWay n 157 r0 x1 x2 0 0 0 M ρ
    else if pc = 100 then
      fX2_onTheWay n 101 r0 x1 x2 0 (0 : Int32) q0 M ρ
    else if pc = 101 then
      if ρ.2.1 q1 = 17 then
      (gX7_push q1 s0 M ρ).bind fun p36 =>
      some p36
      else none
    else if pc = 157 then
      if ρ.2.1 r0 = 17 then
      (gX7_pop r0 M ρ).bind fun p38 =>
      ao_let p38.1 fun v39 =>
      (gX7_pop r0 p38.2 ρ).bind fun p40 =>
      (gX2_compute x1 p40.1 v39 p40.2 ρ).bind fun p41 =>
      (gX7_push r0 p41.1 p41.2 ρ).bind fun p42 =>
      some p42
      else none
    else none
def gX2_onTheWay (n : Nat) (r0 : Nat) (x1 : Int32) (x2 : Int32) (M : ao_M) (ρ : ao_H) : Option (ao_M) := fX2_onTheWay n 0 r0 x1 x2 0 0 0 M ρ
set_option maxRecDepth 100000 in
set_option maxHeartbeats 4000000 in
theorem wX2_onTheWay {Γ : ao_C} {ρ : ao_H} (d : Nat) (hd : 1 ≤ d) : ∀ n : Nat, (∀ (r0 : Nat) (x1 : Int32) (x2 : Int32) (M : ao_M) (y : ao_M), fX2_onTheWay n 0 r0 x1 x2 0 0 0 M ρ = some y → ao_W Γ uX2_onTheWay (ao_rm d 0 0) (ao_Q Γ (ao_PV ρ y) 0 0) 0 0 0 [some (.ref (Γ.2.2.2 + r0)), some (.int x1), some (.int x2), none] [] (M, ρ)) ∧ (∀ (r0 : Nat) (x1 : Int32) (x2 : Int32) (q0 : Nat) (M : ao_M) (y : ao_M), fX2_onTheWay n 100 r0 x1 x2 q0 0 0 M ρ = some y → ao_W Γ uX2_onTheWay (ao_rm d 0 0) (ao_Q Γ (ao_PV ρ y) 0 0) 0 0 100 [some (.ref (Γ.2.2.2 + r0)), some (.int x1), some (.int x2), none] [.ref (Γ.2.2.2 + q0)] (M, ρ)) ∧ (∀ (r0 : Nat) (x1 : Int32) (x2 : Int32) (s0 : Int32) (q1 : Nat) (M : ao_M) (y : ao_M), fX2_onTheWay n 101 r0 x1 x2 0 s0 q1 M ρ = some y → ao_W Γ uX2_onTheWay (ao_rm d 0 0) (ao_Q Γ (ao_PV ρ y) 0 0) 0 0 101 [some (.ref (Γ.2.2.2 + r0)), some (.int x1), some (.int x2), none] [.int s0, .ref (Γ.2.2.2 + q1)] (M, ρ)) ∧ (∀ (r0 : Nat) (x1 : Int32) (x2 : Int32) (M : ao_M) (y : ao_M), fX2_onTheWay n 157 r0 x1 x2 0 0 0 M ρ = some y → ao_W Γ uX2_onTheWay (ao_rm d 0 0) (ao_Q Γ (ao_PV ρ y) 0 0) 0 0 157 [some (.ref (Γ.2.2.2 + r0)), some (.int x1), some (.int x2), none] [] (M, ρ)) := by
  intro n
  induction n with
  | zero => exact ⟨fun _ _ _ _ _ h => ao_no h, fun _ _ _ _ _ _ h => ao_no h, fun _ _ _ _ _ _ _ h => ao_no h, fun _ _ _ _ _ h => ao_no h⟩
  | succ n ih =>
    refine ⟨?_, ?_, ?_, ?_⟩
    · intro r0 x1 x2 M y h
      replace h := ao_ifT h rfl
      refine ao_iload_n 1 dX2_onTheWay_0 rfl rfl ?_
      by_cases c1 : x1 = (0 : Int32)
      · replace h := ao_ifT h c1
        refine ao_tableIn 154 dX2_onTheWay_1 (by rw [c1]; decide) (by rw [c1]; decide) (by rw [c1]; rfl) (by decide) ?_
        refine ao_goto 175 dX2_onTheWay_154 (by decide) ?_
        cases h
        exact ao_return dX2_onTheWay_175 rfl ⟨rfl, rfl⟩
      · replace h := ao_ifF h c1
        by_cases c2 : x1 = (1 : Int32)
        · replace h := ao_ifT h c2
          refine ao_tableIn 72 dX2_onTheWay_1 (by rw [c2]; decide) (by rw [c2]; decide) (by rw [c2]; rfl) (by decide) ?_
          refine ao_aload_n 0 dX2_onTheWay_72 rfl rfl ?_
          refine ao_iload_n 2 dX2_onTheWay_73 rfl rfl ?_
          obtain ⟨hk3, h⟩ := ao_some h
          obtain ⟨p4, hp4, h⟩ := ao_bind h
          refine an_callVv r0 7 (q := (RX7, TX7, 20)) [.int x2] (aX7_push (d - 1) (by omega) r0 x2 M ρ hp4) dX2_onTheWay_74 lc_X2_152 li_X7_push ls_X7_push rfl hk3 rfl rfl (Nat.le_of_ble_eq_true rfl) (ao_hR (by omega) (by decide)) ?_
          refine ao_goto 175 dX2_onTheWay_77 (by decide) ?_
          cases h
          exact ao_return dX2_onTheWay_175 rfl ⟨rfl, rfl⟩
        · replace h := ao_ifF h c2
          by_cases c5 : x1 = (2 : Int32)
          · replace h := ao_ifT h c5
            refine ao_tableIn 80 dX2_onTheWay_1 (by rw [c5]; decide) (by rw [c5]; decide) (by rw [c5]; rfl) (by decide) ?_
            refine ao_aload_n 0 dX2_onTheWay_80 rfl rfl ?_
            refine ao_iload_n 2 dX2_onTheWay_81 rfl rfl ?_
            refine ao_if_lt 100 dX2_onTheWay_82 (by decide) (fun c6 => ?_) (fun c6 => ?_)
            · replace h := ao_ifT h c6
              exact ih.2.1 r0 x1 x2 r0 M _ h
            · replace h := ao_ifF h c6
              refine ao_iload_n 2 dX2_onTheWay_85 rfl rfl ?_
              refine ao_bipush (v := 26) dX2_onTheWay_86 (by decide) ?_
              refine ao_icmp_ge 100 dX2_onTheWay_88 (by decide) (fun c7 => ?_) (fun c7 => ?_)
              · replace h := ao_ifT h c7
                exact ih.2.1 r0 x1 x2 r0 M _ h
              · replace h := ao_ifF h c7
                refine ao_aload_n 0 dX2_onTheWay_91 rfl rfl ?_
                obtain ⟨hk8, h⟩ := ao_some h
                obtain ⟨j9, hj9, h⟩ := ao_bind h
                refine an_getR r0 7 6 (q := (RX7, TX7, 20)) dX2_onTheWay_92 rfl hk8 (Nat.le_of_ble_eq_true rfl) rfl lf_X2_155 hj9 ?_
                refine ao_iload_n 2 dX2_onTheWay_95 rfl rfl ?_
                obtain ⟨hk10, h⟩ := ao_some h
                obtain ⟨hb11, h⟩ := ao_some h
                refine an_iaload j9 dX2_onTheWay_96 hk10 hb11 ?_
                refine ao_goto 101 dX2_onTheWay_97 (by decide) ?_
                exact ih.2.2.1 r0 x1 x2 (M j9 x2.toNatClampNeg) r0 M _ h
          · replace h := ao_ifF h c5
            by_cases c12 : x1 = (9 : Int32)
            · replace h := ao_ifT h c12
              refine ao_tableIn 119 dX2_onTheWay_1 (by rw [c12]; decide) (by rw [c12]; decide) (by rw [c12]; rfl) (by decide) ?_
              refine ao_aload_n 0 dX2_onTheWay_119 rfl rfl ?_
              refine ao_aload_n 0 dX2_onTheWay_120 rfl rfl ?_
              obtain ⟨hk13, h⟩ := ao_some h
              obtain ⟨p14, hp14, h⟩ := ao_bind h
              refine an_callVi r0 7 (q := (RX7, TX7, 20)) [] (aX7_pop (d - 1) (by omega) r0 M ρ hp14) dX2_onTheWay_121 lc_X2_114 li_X7_pop ls_X7_pop rfl hk13 rfl rfl (Nat.le_of_ble_eq_true rfl) (ao_hR (by omega) (by decide)) ?_
              refine ao_ineg dX2_onTheWay_124 ?_
              obtain ⟨p15, hp15, h⟩ := ao_bind h
              refine an_callVv r0 7 (q := (RX7, TX7, 20)) [.int (-p14.1)] (aX7_push (d - 1) (by omega) r0 (-p14.1) p14.2 ρ hp15) dX2_onTheWay_125 lc_X2_152 li_X7_push ls_X7_push rfl hk13 rfl rfl (Nat.le_of_ble_eq_true rfl) (ao_hR (by omega) (by decide)) ?_
              refine ao_goto 175 dX2_onTheWay_128 (by decide) ?_
              cases h
              exact ao_return dX2_onTheWay_175 rfl ⟨rfl, rfl⟩
            · replace h := ao_ifF h c12
              by_cases c16 : x1 = (10 : Int32)
              · replace h := ao_ifT h c16
                refine ao_tableIn 107 dX2_onTheWay_1 (by rw [c16]; decide) (by rw [c16]; decide) (by rw [c16]; rfl) (by decide) ?_
                refine ao_aload_n 0 dX2_onTheWay_107 rfl rfl ?_
                refine ao_iload_n 2 dX2_onTheWay_108 rfl rfl ?_
                refine ao_aload_n 0 dX2_onTheWay_109 rfl rfl ?_
                obtain ⟨hk17, h⟩ := ao_some h
                obtain ⟨p18, hp18, h⟩ := ao_bind h
                refine an_callVi r0 7 (q := (RX7, TX7, 20)) [] (aX7_pop (d - 1) (by omega) r0 M ρ hp18) dX2_onTheWay_110 lc_X2_114 li_X7_pop ls_X7_pop rfl hk17 rfl rfl (Nat.le_of_ble_eq_true rfl) (ao_hR (by omega) (by decide)) ?_
                obtain ⟨p19, hp19, h⟩ := ao_bind h
                refine an_callSv [.ref (Γ.2.2.2 + r0), .int x2, .int p18.1] (aX2_setRegister (d - 1) (by omega) r0 x2 p18.1 p18.2 ρ hp19) dX2_onTheWay_113 lc_X2_158 lt_X2_setRegister rfl rfl (Nat.le_of_ble_eq_true rfl) (ao_hR (by omega) (by decide)) ?_
                refine ao_goto 175 dX2_onTheWay_116 (by decide) ?_
                cases h
                exact ao_return dX2_onTheWay_175 rfl ⟨rfl, rfl⟩
              · replace h := ao_ifF h c16
                by_cases c20 : x1 = (12 : Int32)
                · replace h := ao_ifT h c20
                  refine ao_tableIn 131 dX2_onTheWay_1 (by rw [c20]; decide) (by rw [c20]; decide) (by rw [c20]; rfl) (by decide) ?_
                  refine ao_aload_n 0 dX2_onTheWay_131 rfl rfl ?_
                  refine ao_iload_n 2 dX2_onTheWay_132 rfl rfl ?_
                  obtain ⟨hk21, h⟩ := ao_some h
                  refine an_putI r0 7 3 (q := (RX7, TX7, 20)) dX2_onTheWay_133 rfl hk21 (Nat.le_of_ble_eq_true rfl) lf_X2_92 rfl rfl rfl rfl (fun M22 hM22 => ?_)
                  replace h := ao_letD h hM22
                  refine ao_goto 175 dX2_onTheWay_136 (by decide) ?_
                  cases h
                  exact ao_return dX2_onTheWay_175 rfl ⟨rfl, rfl⟩
                · replace h := ao_ifF h c20
                  by_cases c23 : x1 = (13 : Int32)
                  · replace h := ao_ifT h c23
                    refine ao_tableIn 139 dX2_onTheWay_1 (by rw [c23]; decide) (by rw [c23]; decide) (by rw [c23]; rfl) (by decide) ?_
                    refine ao_aload_n 0 dX2_onTheWay_139 rfl rfl ?_
                    obtain ⟨hk24, h⟩ := ao_some h
                    obtain ⟨p25, hp25, h⟩ := ao_bind h
                    refine an_callVi r0 7 (q := (RX7, TX7, 20)) [] (aX7_pop (d - 1) (by omega) r0 M ρ hp25) dX2_onTheWay_140 lc_X2_114 li_X7_pop ls_X7_pop rfl hk24 rfl rfl (Nat.le_of_ble_eq_true rfl) (ao_hR (by omega) (by decide)) ?_
                    refine ao_if_ne 175 dX2_onTheWay_143 (by decide) (fun c26 => ?_) (fun c26 => ?_)
                    · replace h := ao_ifF h c26
                      cases h
                      exact ao_return dX2_onTheWay_175 rfl ⟨rfl, rfl⟩
                    · replace h := ao_ifT h c26
                      refine ao_aload_n 0 dX2_onTheWay_146 rfl rfl ?_
                      refine ao_iload_n 2 dX2_onTheWay_147 rfl rfl ?_
                      refine an_putI r0 7 3 (q := (RX7, TX7, 20)) dX2_onTheWay_148 rfl hk24 (Nat.le_of_ble_eq_true rfl) lf_X2_92 rfl rfl rfl rfl (fun M27 hM27 => ?_)
                      replace h := ao_letD h hM27
                      refine ao_goto 175 dX2_onTheWay_151 (by decide) ?_
                      cases h
                      exact ao_return dX2_onTheWay_175 rfl ⟨rfl, rfl⟩
                  · replace h := ao_ifF h c23
                    by_cases c28 : x1 = (3 : Int32)
                    · refine ao_tableIn 157 dX2_onTheWay_1 (by rw [c28]; decide) (by rw [c28]; decide) (by rw [c28]; rfl) (by decide) ?_
                      exact ih.2.2.2 r0 x1 x2 M _ h
                    · by_cases c29 : x1 = (4 : Int32)
                      · refine ao_tableIn 157 dX2_onTheWay_1 (by rw [c29]; decide) (by rw [c29]; decide) (by rw [c29]; rfl) (by decide) ?_
                        exact ih.2.2.2 r0 x1 x2 M _ h
                      · by_cases c30 : x1 = (5 : Int32)
                        · refine ao_tableIn 157 dX2_onTheWay_1 (by rw [c30]; decide) (by rw [c30]; decide) (by rw [c30]; rfl) (by decide) ?_
                          exact ih.2.2.2 r0 x1 x2 M _ h
                        · by_cases c31 : x1 = (6 : Int32)
                          · refine ao_tableIn 157 dX2_onTheWay_1 (by rw [c31]; decide) (by rw [c31]; decide) (by rw [c31]; rfl) (by decide) ?_
                            exact ih.2.2.2 r0 x1 x2 M _ h
                          · by_cases c32 : x1 = (7 : Int32)
                            · refine ao_tableIn 157 dX2_onTheWay_1 (by rw [c32]; decide) (by rw [c32]; decide) (by rw [c32]; rfl) (by decide) ?_
                              exact ih.2.2.2 r0 x1 x2 M _ h
                            · by_cases c33 : x1 = (8 : Int32)
                              · refine ao_tableIn 157 dX2_onTheWay_1 (by rw [c33]; decide) (by rw [c33]; decide) (by rw [c33]; rfl) (by decide) ?_
                                exact ih.2.2.2 r0 x1 x2 M _ h
                              · by_cases c34 : x1 = (11 : Int32)
                                · refine ao_tableIn 157 dX2_onTheWay_1 (by rw [c34]; decide) (by rw [c34]; decide) (by rw [c34]; rfl) (by decide) ?_
                                  exact ih.2.2.2 r0 x1 x2 M _ h
                                · refine ao_tableOut 157 dX2_onTheWay_1 (by have nc1 := ao_ne (z := 0) c1 (by decide); have nc2 := ao_ne (z := 1) c2 (by decide); have nc5 := ao_ne (z := 2) c5 (by decide); have nc12 := ao_ne (z := 9) c12 (by decide); have nc16 := ao_ne (z := 10) c16 (by decide); have nc20 := ao_ne (z := 12) c20 (by decide); have nc23 := ao_ne (z := 13) c23 (by decide); have nc28 := ao_ne (z := 3) c28 (by decide); have nc29 := ao_ne (z := 4) c29 (by decide); have nc30 := ao_ne (z := 5) c30 (by decide); have nc31 := ao_ne (z := 6) c31 (by decide); have nc32 := ao_ne (z := 7) c32 (by decide); have nc33 := ao_ne (z := 8) c33 (by decide); have nc34 := ao_ne (z := 11) c34 (by decide); omega) (by decide) ?_
                                  exact ih.2.2.2 r0 x1 x2 M _ h
    · intro r0 x1 x2 q0 M y h
      replace h := ao_ifF h (by decide)
      replace h := ao_ifT h rfl
      refine ao_iconst (v := 0) dX2_onTheWay_100 (by decide) ?_
      exact ih.2.2.1 r0 x1 x2 (0 : Int32) q0 M _ h
    · intro r0 x1 x2 s0 q1 M y h
      replace h := ao_ifF h (by decide)
      replace h := ao_ifF h (by decide)
      replace h := ao_ifT h rfl
      obtain ⟨hk35, h⟩ := ao_some h
      obtain ⟨p36, hp36, h⟩ := ao_bind h
      refine an_callVv q1 7 (q := (RX7, TX7, 20)) [.int s0] (aX7_push (d - 1) (by omega) q1 s0 M ρ hp36) dX2_onTheWay_101 lc_X2_152 li_X7_push ls_X7_push rfl hk35 rfl rfl (Nat.le_of_ble_eq_true rfl) (ao_hR (by omega) (by decide)) ?_
      refine ao_goto 175 dX2_onTheWay_104 (by decide) ?_
      cases h
      exact ao_return dX2_onTheWay_175 rfl ⟨rfl, rfl⟩
    · intro r0 x1 x2 M y h
      replace h := ao_ifF h (by decide)
      replace h := ao_ifF h (by decide)
      replace h := ao_ifF h (by decide)
      replace h := ao_ifT h rfl
      refine ao_aload_n 0 dX2_onTheWay_157 rfl rfl ?_
      obtain ⟨hk37, h⟩ := ao_some h
      obtain ⟨p38, hp38, h⟩ := ao_bind h
      refine an_callVi r0 7 (q := (RX7, TX7, 20)) [] (aX7_pop (d - 1) (by omega) r0 M ρ hp38) dX2_onTheWay_158 lc_X2_114 li_X7_pop ls_X7_pop rfl hk37 rfl rfl (Nat.le_of_ble_eq_true rfl) (ao_hR (by omega) (by decide)) ?_
      refine an_topi (fun v39 hv39 => ?_)
      replace h := ao_letD h hv39
      refine ao_istore_n 3 (lo' := [some (.ref (Γ.2.2.2 + r0)), some (.int x1), some (.int x2), some (.int v39)]) dX2_onTheWay_161 rfl (Nat.le_of_ble_eq_true rfl) rfl ?_
      refine ao_aload_n 0 dX2_onTheWay_162 rfl rfl ?_
      refine ao_iload_n 1 dX2_onTheWay_163 rfl rfl ?_
      refine ao_aload_n 0 dX2_onTheWay_164 rfl rfl ?_
      obtain ⟨p40, hp40, h⟩ := ao_bind h
      refine an_callVi r0 7 (q := (RX7, TX7, 20)) [] (aX7_pop (d - 1) (by omega) r0 p38.2 ρ hp40) dX2_onTheWay_165 lc_X2_114 li_X7_pop ls_X7_pop rfl hk37 rfl rfl (Nat.le_of_ble_eq_true rfl) (ao_hR (by omega) (by decide)) ?_
      refine ao_iload_n 3 dX2_onTheWay_168 rfl rfl ?_
      obtain ⟨p41, hp41, h⟩ := ao_bind h
      refine an_callSi [.int x1, .int p40.1, .int v39] (aX2_compute (d - 1) (by omega) x1 p40.1 v39 p40.2 ρ hp41) dX2_onTheWay_169 lc_X2_161 lt_X2_compute rfl rfl (Nat.le_of_ble_eq_true rfl) (ao_hR (by omega) (by decide)) ?_
      obtain ⟨p42, hp42, h⟩ := ao_bind h
      refine an_callVv r0 7 (q := (RX7, TX7, 20)) [.int p41.1] (aX7_push (d - 1) (by omega) r0 p41.1 p41.2 ρ hp42) dX2_onTheWay_172 lc_X2_152 li_X7_push ls_X7_push rfl hk37 rfl rfl (Nat.le_of_ble_eq_true rfl) (ao_hR (by omega) (by decide)) ?_
      cases h
      exact ao_return dX2_onTheWay_175 rfl ⟨rfl, rfl⟩
set_option maxRecDepth 100000 in
set_option maxHeartbeats 4000000 in
theorem aX2_onTheWay {Γ : ao_C} (d : Nat) (hd : 1 ≤ d) (n : Nat) (r0 : Nat) (x1 : Int32) (x2 : Int32) (M : ao_M) (ρ : ao_H) {y : ao_M} (h : gX2_onTheWay n r0 x1 x2 M ρ = some y) : ao_A Γ uX2_onTheWay d 0 0 [.ref (Γ.2.2.2 + r0), .int x1, .int x2] (M, ρ) (ao_PV ρ y) := by
  refine ao_of (by decide) (ao_cat1 (Nat.le_of_ble_eq_true rfl)) (Nat.le_of_ble_eq_true rfl) ?_
  show ao_W Γ uX2_onTheWay (ao_rm d 0 0) (ao_Q Γ (ao_PV ρ y) 0 0) 0 0 0 [some (.ref (Γ.2.2.2 + r0)), some (.int x1), some (.int x2), none] [] (M, ρ)
  exact (wX2_onTheWay d hd n).1 r0 x1 x2 M y h

abbrev uX2_again : ao_Mi := (yX2_again, cX2_again, 2, (some .int), [])
def gX2_again (r0 : Nat) (x1 : Int32) (M : ao_M) (ρ : ao_H) : Option (Int32 × ao_M) :=
  if ρ.2.1 r0 = 17 then
  (gX7_pop r0 M ρ).bind fun p2 =>
  if p2.1 = 0 then
    ao_let (ao_u p2.2 r0 3 x1) fun M4 =>
    some ((-1 : Int32), M4)
  else
    some ((0 : Int32), p2.2)
  else none
set_option maxRecDepth 100000 in
set_option maxHeartbeats 4000000 in
theorem aX2_again {Γ : ao_C} (d : Nat) (hd : 1 ≤ d) (r0 : Nat) (x1 : Int32) (M : ao_M) (ρ : ao_H) {y : Int32 × ao_M} (h : gX2_again r0 x1 M ρ = some y) : ao_A Γ uX2_again d 0 0 [.ref (Γ.2.2.2 + r0), .int x1] (M, ρ) (ao_PI ρ y) := by
  refine ao_of (by decide) (ao_cat1 (Nat.le_of_ble_eq_true rfl)) (Nat.le_of_ble_eq_true rfl) ?_
  show ao_W Γ uX2_again (ao_rm d 0 0) (ao_Q Γ (ao_PI ρ y) 0 0) 0 0 0 [some (.ref (Γ.2.2.2 + r0)), some (.int x1)] [] (M, ρ)
  unfold gX2_again at h
  refine ao_aload_n 0 dX2_again_0 rfl rfl ?_
  obtain ⟨hk1, h⟩ := ao_some h
  obtain ⟨p2, hp2, h⟩ := ao_bind h
  refine an_callVi r0 7 (q := (RX7, TX7, 20)) [] (aX7_pop (d - 1) (by omega) r0 M ρ hp2) dX2_again_1 lc_X2_114 li_X7_pop ls_X7_pop rfl hk1 rfl rfl (Nat.le_of_ble_eq_true rfl) (ao_hR (by omega) (by decide)) ?_
  refine ao_if_eq 9 dX2_again_4 (by decide) (fun c3 => ?_) (fun c3 => ?_)
  · replace h := ao_ifT h c3
    refine ao_aload_n 0 dX2_again_9 rfl rfl ?_
    refine ao_iload_n 1 dX2_again_10 rfl rfl ?_
    refine an_putI r0 7 3 (q := (RX7, TX7, 20)) dX2_again_11 rfl hk1 (Nat.le_of_ble_eq_true rfl) lf_X2_92 rfl rfl rfl rfl (fun M4 hM4 => ?_)
    replace h := ao_letD h hM4
    refine ao_iconst (v := (-1)) dX2_again_14 (by decide) ?_
    cases h
    exact ao_ireturn dX2_again_15 rfl rfl ⟨rfl, rfl⟩
  · replace h := ao_ifF h c3
    refine ao_iconst (v := 0) dX2_again_7 (by decide) ?_
    cases h
    exact ao_ireturn dX2_again_8 rfl rfl ⟨rfl, rfl⟩

abbrev uX2_say : ao_Mi := (yX2_say, cX2_say, 3, (some .int), [])
def gX2_say (r0 : Nat) (r1 : Nat) (x2 : Int32) (M : ao_M) (ρ : ao_H) : Option (Int32 × ao_M) :=
  if ρ.2.1 r1 = 17 then
  if (M r1 8) ≤ 0 then
    if ρ.2.1 r0 = 12 then
    (ρ.1 r0 2).bind fun j4 =>
    if ρ.2.1 j4 = 18 then
    (gX8_add j4 (M r1 0) x2 M ρ).bind fun p6 =>
    some ((0 : Int32), p6)
    else none
    else none
  else
    (gX7_hold r1 x2 M ρ).bind fun p7 =>
    some ((0 : Int32), p7)
  else none
set_option maxRecDepth 100000 in
set_option maxHeartbeats 4000000 in
theorem aX2_say {Γ : ao_C} (d : Nat) (hd : 1 ≤ d) (r0 : Nat) (r1 : Nat) (x2 : Int32) (M : ao_M) (ρ : ao_H) {y : Int32 × ao_M} (h : gX2_say r0 r1 x2 M ρ = some y) : ao_A Γ uX2_say d 0 0 [.ref (Γ.2.2.2 + r0), .ref (Γ.2.2.2 + r1), .int x2] (M, ρ) (ao_PI ρ y) := by
  refine ao_of (by decide) (ao_cat1 (Nat.le_of_ble_eq_true rfl)) (Nat.le_of_ble_eq_true rfl) ?_
  show ao_W Γ uX2_say (ao_rm d 0 0) (ao_Q Γ (ao_PI ρ y) 0 0) 0 0 0 [some (.ref (Γ.2.2.2 + r0)), some (.ref (Γ.2.2.2 + r1)), some (.int x2)] [] (M, ρ)
  unfold gX2_say at h
  refine ao_aload_n 1 dX2_say_0 rfl rfl ?_
  obtain ⟨hk1, h⟩ := ao_some h
  refine an_getI r1 7 8 (q := (RX7, TX7, 20)) dX2_say_1 rfl hk1 (Nat.le_of_ble_eq_true rfl) rfl lf_X2_165 ?_
  refine ao_if_le 15 dX2_say_4 (by decide) (fun c2 => ?_) (fun c2 => ?_)
  · replace h := ao_ifT h c2
    refine ao_aload_n 0 dX2_say_15 rfl rfl ?_
    obtain ⟨hk3, h⟩ := ao_some h
    obtain ⟨j4, hj4, h⟩ := ao_bind h
    refine an_getR r0 2 2 (q := (RX2, TX2, 7)) dX2_say_16 rfl hk3 (Nat.le_of_ble_eq_true rfl) rfl lf_X2_21 hj4 ?_
    refine ao_aload_n 1 dX2_say_19 rfl rfl ?_
    refine an_getI r1 7 0 (q := (RX7, TX7, 20)) dX2_say_20 rfl hk1 (Nat.le_of_ble_eq_true rfl) rfl lf_X2_171 ?_
    refine ao_iload_n 2 dX2_say_23 rfl rfl ?_
    obtain ⟨hk5, h⟩ := ao_some h
    obtain ⟨p6, hp6, h⟩ := ao_bind h
    refine an_callVv j4 8 (q := (RX8, TX8, 3)) [.int (M r1 0), .int x2] (aX8_add (d - 1) (by omega) j4 (M r1 0) x2 M ρ hp6) dX2_say_24 lc_X2_174 li_X8_add ls_X8_add rfl hk5 rfl rfl (Nat.le_of_ble_eq_true rfl) (ao_hR (by omega) (by decide)) ?_
    refine ao_iconst (v := 0) dX2_say_27 (by decide) ?_
    cases h
    exact ao_ireturn dX2_say_28 rfl rfl ⟨rfl, rfl⟩
  · replace h := ao_ifF h c2
    refine ao_aload_n 1 dX2_say_7 rfl rfl ?_
    refine ao_iload_n 2 dX2_say_8 rfl rfl ?_
    obtain ⟨p7, hp7, h⟩ := ao_bind h
    refine an_callVv r1 7 (q := (RX7, TX7, 20)) [.int x2] (aX7_hold (d - 1) (by omega) r1 x2 M ρ hp7) dX2_say_9 lc_X2_168 li_X7_hold ls_X7_hold rfl hk1 rfl rfl (Nat.le_of_ble_eq_true rfl) (ao_hR (by omega) (by decide)) ?_
    refine ao_goto 27 dX2_say_12 (by decide) ?_
    refine ao_iconst (v := 0) dX2_say_27 (by decide) ?_
    cases h
    exact ao_ireturn dX2_say_28 rfl rfl ⟨rfl, rfl⟩

abbrev uX2_loserAbout : ao_Mi := (yX2_loserAbout, cX2_loserAbout, 4, (some .int), [])
def gX2_loserAbout (r0 : Nat) (r1 : Nat) (x2 : Int32) (M : ao_M) (ρ : ao_H) : Option (Int32 × ao_M) :=
  if ρ.2.1 r0 = 12 then
  (ρ.1 r0 0).bind fun j2 =>
  if ρ.2.1 r1 = 17 then
  if ρ.2.1 j2 = 15 then
  (gX5_isTakenByOther j2 x2 (M r1 0) M ρ).bind fun p5 =>
  if p5.1 = 0 then
    some ((-1 : Int32), p5.2)
  else
    (ρ.1 j2 2).bind fun j7 =>
    if ρ.2.1 j7 = 0 then
    if ¬ (x2 < 0 ∨ ρ.2.2.1 j7 ≤ x2.toNatClampNeg) then
    ao_let (p5.2 j7 x2.toNatClampNeg) fun v10 =>
    if v10 < 0 then
      some ((-1 : Int32), p5.2)
    else
      if v10 < (6 : Int32) then
        (ρ.1 r0 1).bind fun j13 =>
        if ρ.2.1 j13 = 4 then
        if ¬ (v10 < 0 ∨ ρ.2.2.1 j13 ≤ v10.toNatClampNeg) then
        (ρ.1 j13 v10.toNatClampNeg).bind fun j16 =>
        if ρ.2.1 j16 = 17 then
        if (p5.2 j16 15) ≤ (p5.2 r1 15) then
          some ((p5.2 r1 0), p5.2)
        else
          some (v10, p5.2)
        else none
        else none
        else none
      else
        some ((-1 : Int32), p5.2)
    else none
    else none
  else none
  else none
  else none
set_option maxRecDepth 100000 in
set_option maxHeartbeats 4000000 in
theorem aX2_loserAbout {Γ : ao_C} (d : Nat) (hd : 1 ≤ d) (r0 : Nat) (r1 : Nat) (x2 : Int32) (M : ao_M) (ρ : ao_H) {y : Int32 × ao_M} (h : gX2_loserAbout r0 r1 x2 M ρ = some y) : ao_A Γ uX2_loserAbout d 0 0 [.ref (Γ.2.2.2 + r0), .ref (Γ.2.2.2 + r1), .int x2] (M, ρ) (ao_PI ρ y) := by
  refine ao_of (by decide) (ao_cat1 (Nat.le_of_ble_eq_true rfl)) (Nat.le_of_ble_eq_true rfl) ?_
  show ao_W Γ uX2_loserAbout (ao_rm d 0 0) (ao_Q Γ (ao_PI ρ y) 0 0) 0 0 0 [some (.ref (Γ.2.2.2 + r0)), some (.ref (Γ.2.2.2 + r1)), some (.int x2), none] [] (M, ρ)
  unfold gX2_loserAbout at h
  refine ao_aload_n 0 dX2_loserAbout_0 rfl rfl ?_
  obtain ⟨hk1, h⟩ := ao_some h
  obtain ⟨j2, hj2, h⟩ := ao_bind h
  refine an_getR r0 2 0 (q := (RX2, TX2, 7)) dX2_loserAbout_1 rfl hk1 (Nat.le_of_ble_eq_true rfl) rfl lf_X2_12 hj2 ?_
  refine ao_iload_n 2 dX2_loserAbout_4 rfl rfl ?_
  refine ao_aload_n 1 dX2_loserAbout_5 rfl rfl ?_
  obtain ⟨hk3, h⟩ := ao_some h
  refine an_getI r1 7 0 (q := (RX7, TX7, 20)) dX2_loserAbout_6 rfl hk3 (Nat.le_of_ble_eq_true rfl) rfl lf_X2_171 ?_
  obtain ⟨hk4, h⟩ := ao_some h
  obtain ⟨p5, hp5, h⟩ := ao_bind h
  refine an_callVi j2 5 (q := (RX5, TX5, 11)) [.int x2, .int (M r1 0)] (aX5_isTakenByOther (d - 1) (by omega) j2 x2 (M r1 0) M ρ hp5) dX2_loserAbout_9 lc_X2_251 li_X5_isTakenByOther ls_X5_isTakenByOther rfl hk4 rfl rfl (Nat.le_of_ble_eq_true rfl) (ao_hR (by omega) (by decide)) ?_
  refine ao_if_ne 17 dX2_loserAbout_12 (by decide) (fun c6 => ?_) (fun c6 => ?_)
  · replace h := ao_ifF h c6
    refine ao_aload_n 0 dX2_loserAbout_17 rfl rfl ?_
    refine an_getR r0 2 0 (q := (RX2, TX2, 7)) dX2_loserAbout_18 rfl hk1 (Nat.le_of_ble_eq_true rfl) rfl lf_X2_12 hj2 ?_
    obtain ⟨j7, hj7, h⟩ := ao_bind h
    refine an_getR j2 5 2 (q := (RX5, TX5, 11)) dX2_loserAbout_21 rfl hk4 (Nat.le_of_ble_eq_true rfl) rfl lf_X2_245 hj7 ?_
    refine ao_iload_n 2 dX2_loserAbout_24 rfl rfl ?_
    obtain ⟨hk8, h⟩ := ao_some h
    obtain ⟨hb9, h⟩ := ao_some h
    refine an_iaload j7 dX2_loserAbout_25 hk8 hb9 ?_
    refine an_topi (fun v10 hv10 => ?_)
    replace h := ao_letD h hv10
    refine ao_istore_n 3 (lo' := [some (.ref (Γ.2.2.2 + r0)), some (.ref (Γ.2.2.2 + r1)), some (.int x2), some (.int v10)]) dX2_loserAbout_26 rfl (Nat.le_of_ble_eq_true rfl) rfl ?_
    refine ao_iload_n 3 dX2_loserAbout_27 rfl rfl ?_
    refine ao_if_lt 37 dX2_loserAbout_28 (by decide) (fun c11 => ?_) (fun c11 => ?_)
    · replace h := ao_ifT h c11
      refine ao_iconst (v := (-1)) dX2_loserAbout_37 (by decide) ?_
      cases h
      exact ao_ireturn dX2_loserAbout_38 rfl rfl ⟨rfl, rfl⟩
    · replace h := ao_ifF h c11
      refine ao_iload_n 3 dX2_loserAbout_31 rfl rfl ?_
      refine ao_bipush (v := 6) dX2_loserAbout_32 (by decide) ?_
      refine ao_icmp_lt 39 dX2_loserAbout_34 (by decide) (fun c12 => ?_) (fun c12 => ?_)
      · replace h := ao_ifT h c12
        refine ao_aload_n 0 dX2_loserAbout_39 rfl rfl ?_
        obtain ⟨j13, hj13, h⟩ := ao_bind h
        refine an_getR r0 2 1 (q := (RX2, TX2, 7)) dX2_loserAbout_40 rfl hk1 (Nat.le_of_ble_eq_true rfl) rfl lf_X2_34 hj13 ?_
        refine ao_iload_n 3 dX2_loserAbout_43 rfl rfl ?_
        obtain ⟨hk14, h⟩ := ao_some h
        obtain ⟨hb15, h⟩ := ao_some h
        obtain ⟨j16, hj16, h⟩ := ao_bind h
        refine an_aaload j13 4 dX2_loserAbout_44 hk14 (by decide) hb15 hj16 ?_
        obtain ⟨hk17, h⟩ := ao_some h
        refine an_getI j16 7 15 (q := (RX7, TX7, 20)) dX2_loserAbout_45 rfl hk17 (Nat.le_of_ble_eq_true rfl) rfl lf_X2_254 ?_
        refine ao_aload_n 1 dX2_loserAbout_48 rfl rfl ?_
        refine an_getI r1 7 15 (q := (RX7, TX7, 20)) dX2_loserAbout_49 rfl hk3 (Nat.le_of_ble_eq_true rfl) rfl lf_X2_254 ?_
        refine ao_icmp_le 59 dX2_loserAbout_52 (by decide) (fun c18 => ?_) (fun c18 => ?_)
        · replace h := ao_ifT h c18
          refine ao_aload_n 1 dX2_loserAbout_59 rfl rfl ?_
          refine an_getI r1 7 0 (q := (RX7, TX7, 20)) dX2_loserAbout_60 rfl hk3 (Nat.le_of_ble_eq_true rfl) rfl lf_X2_171 ?_
          cases h
          exact ao_ireturn dX2_loserAbout_63 rfl rfl ⟨rfl, rfl⟩
        · replace h := ao_ifF h c18
          refine ao_iload_n 3 dX2_loserAbout_55 rfl rfl ?_
          refine ao_goto 63 dX2_loserAbout_56 (by decide) ?_
          cases h
          exact ao_ireturn dX2_loserAbout_63 rfl rfl ⟨rfl, rfl⟩
      · replace h := ao_ifF h c12
        refine ao_iconst (v := (-1)) dX2_loserAbout_37 (by decide) ?_
        cases h
        exact ao_ireturn dX2_loserAbout_38 rfl rfl ⟨rfl, rfl⟩
  · replace h := ao_ifT h c6
    refine ao_iconst (v := (-1)) dX2_loserAbout_15 (by decide) ?_
    cases h
    exact ao_ireturn dX2_loserAbout_16 rfl rfl ⟨rfl, rfl⟩

abbrev uX2_isWrong : ao_Mi := (yX2_isWrong, cX2_isWrong, 5, (some .boolean), [])
def fX2_isWrong : Nat → Nat → Nat → Nat → Nat → Int32 → Int32 →  ao_M → ao_H → Option (Int32 × ao_M)
  | 0, _, _, _, _, _, _, _, _ => none
  | n + 1, pc, r0, r1, r2, x3, x4, M, ρ =>
    if pc = 0 then
      if x3 < 0 then
        some ((0 : Int32), M)
      else
        if x3 < (26 : Int32) then
          if ρ.2.1 r2 = 13 then
          (ρ.1 r2 0).bind fun j4 =>
          if ρ.2.1 j4 = 0 then
          if ¬ (x3 < 0 ∨ ρ.2.2.1 j4 ≤ x3.toNatClampNeg) then
          ao_let (M j4 x3.toNatClampNeg) fun v7 =>
          if v7 < 0 then
            some ((0 : Int32), M)
          else
            if v7 < (26 : Int32) then
              if ρ.2.1 r0 = 12 then
              ao_let (M r0 5) fun v11 =>
              if v11 = (0 : Int32) then
                fX2_isWrong n 68 r0 r1 r2 x3 v7 M ρ
              else
                if v11 = (1 : Int32) then
                  (ρ.1 r0 0).bind fun j14 =>
                  if ρ.2.1 j14 = 15 then
                  (ρ.1 j14 0).bind fun j16 =>
                  if ρ.2.1 j16 = 0 then
                  if ¬ (v7 < 0 ∨ ρ.2.2.1 j16 ≤ v7.toNatClampNeg) then
                  (ρ.1 r2 1).bind fun j19 =>
                  if ρ.2.1 j19 = 0 then
                  if ¬ (x3 < 0 ∨ ρ.2.2.1 j19 ≤ x3.toNatClampNeg) then
                  if (M j16 v7.toNatClampNeg) = (M j19 x3.toNatClampNeg) then
                    some ((0 : Int32), M)
                  else
                    some ((1 : Int32), M)
                  else none
                  else none
                  else none
                  else none
                  else none
                else
                  if v11 = (2 : Int32) then
                    fX2_isWrong n 68 r0 r1 r2 x3 v7 M ρ
                  else
                    if v11 = (3 : Int32) then
                      (ρ.1 r0 0).bind fun j25 =>
                      if ρ.2.1 r1 = 17 then
                      if ρ.2.1 j25 = 15 then
                      (gX5_isTakenByOther j25 v7 (M r1 0) M ρ).bind fun p28 =>
                      if p28.1 = 0 then
                        (ρ.1 j25 1).bind fun j30 =>
                        if ρ.2.1 j30 = 0 then
                        if ¬ (v7 < 0 ∨ ρ.2.2.1 j30 ≤ v7.toNatClampNeg) then
                        (ρ.1 r2 2).bind fun j33 =>
                        if ρ.2.1 j33 = 0 then
                        if ¬ (x3 < 0 ∨ ρ.2.2.1 j33 ≤ x3.toNatClampNeg) then
                        if (p28.2 j30 v7.toNatClampNeg) = (p28.2 j33 x3.toNatClampNeg) then
                          some ((0 : Int32), p28.2)
                        else
                          fX2_isWrong n 151 r0 r1 r2 x3 v7 p28.2 ρ
                        else none
                        else none
                        else none
                        else none
                      else
                        fX2_isWrong n 151 r0 r1 r2 x3 v7 p28.2 ρ
                      else none
                      else none
                    else
                      some ((0 : Int32), M)
              else none
            else
              some ((0 : Int32), M)
          else none
          else none
          else none
        else
          some ((0 : Int32), M)
    else if pc = 68 then
      if ρ.2.1 r0 = 12 then
      (ρ.1 r0 0).bind fun j38 =>
      if ρ.2.1 j38 = 15 then
      (ρ.1 j38 1).bind fun j40 =>
      if ρ.2.1 j40 = 0 then
      if ¬ (x4 < 0 ∨ ρ.2.2.1 j40 ≤ x4.toNatClampNeg) then
      if ρ.2.1 r1 = 17 then
      if (M j40 x4.toNatClampNeg) ≤ (M r1 14) then
        some ((0 : Int32), M)
      else
        some ((1 : Int32), M)
      else none
      else none
      else none
      else none
      else none
    else if pc = 151 then
      some ((1 : Int32), M)
    else none
def gX2_isWrong (n : Nat) (r0 : Nat) (r1 : Nat) (r2 : Nat) (x3 : Int32) (M : ao_M) (ρ : ao_H) : Option (Int32 × ao_M) := fX2_isWrong n 0 r0 r1 r2 x3 0 M ρ
set_option maxRecDepth 100000 in
set_option maxHeartbeats 4000000 in
theorem wX2_isWrong {Γ : ao_C} {ρ : ao_H} (d : Nat) (hd : 1 ≤ d) : ∀ n : Nat, (∀ (r0 : Nat) (r1 : Nat) (r2 : Nat) (x3 : Int32) (M : ao_M) (y : Int32 × ao_M), fX2_isWrong n 0 r0 r1 r2 x3 0 M ρ = some y → ao_W Γ uX2_isWrong (ao_rm d 0 0) (ao_Q Γ (ao_PI ρ y) 0 0) 0 0 0 [some (.ref (Γ.2.2.2 + r0)), some (.ref (Γ.2.2.2 + r1)), some (.ref (Γ.2.2.2 + r2)), some (.int x3), none] [] (M, ρ)) ∧ (∀ (r0 : Nat) (r1 : Nat) (r2 : Nat) (x3 : Int32) (x4 : Int32) (M : ao_M) (y : Int32 × ao_M), fX2_isWrong n 68 r0 r1 r2 x3 x4 M ρ = some y → ao_W Γ uX2_isWrong (ao_rm d 0 0) (ao_Q Γ (ao_PI ρ y) 0 0) 0 0 68 [some (.ref (Γ.2.2.2 + r0)), some (.ref (Γ.2.2.2 + r1)), some (.ref (Γ.2.2.2 + r2)), some (.int x3), some (.int x4)] [] (M, ρ)) ∧ (∀ (r0 : Nat) (r1 : Nat) (r2 : Nat) (x3 : Int32) (x4 : Int32) (M : ao_M) (y : Int32 × ao_M), fX2_isWrong n 151 r0 r1 r2 x3 x4 M ρ = some y → ao_W Γ uX2_isWrong (ao_rm d 0 0) (ao_Q Γ (ao_PI ρ y) 0 0) 0 0 151 [some (.ref (Γ.2.2.2 + r0)), some (.ref (Γ.2.2.2 + r1)), some (.ref (Γ.2.2.2 + r2)), some (.int x3), some (.int x4)] [] (M, ρ)) := by
  intro n
  induction n with
  | zero => exact ⟨fun _ _ _ _ _ _ h => ao_no h, fun _ _ _ _ _ _ _ h => ao_no h, fun _ _ _ _ _ _ _ h => ao_no h⟩
  | succ n ih =>
    refine ⟨?_, ?_, ?_⟩
    · intro r0 r1 r2 x3 M y h
      replace h := ao_ifT h rfl
      refine ao_iload_n 3 dX2_isWrong_0 rfl rfl ?_
      refine ao_if_lt 10 dX2_isWrong_1 (by decide) (fun c1 => ?_) (fun c1 => ?_)
      · replace h := ao_ifT h c1
        refine ao_iconst (v := 0) dX2_isWrong_10 (by decide) ?_
        cases h
        exact ao_ireturn dX2_isWrong_11 rfl rfl ⟨rfl, rfl⟩
      · replace h := ao_ifF h c1
        refine ao_iload_n 3 dX2_isWrong_4 rfl rfl ?_
        refine ao_bipush (v := 26) dX2_isWrong_5 (by decide) ?_
        refine ao_icmp_lt 12 dX2_isWrong_7 (by decide) (fun c2 => ?_) (fun c2 => ?_)
        · replace h := ao_ifT h c2
          refine ao_aload_n 2 dX2_isWrong_12 rfl rfl ?_
          obtain ⟨hk3, h⟩ := ao_some h
          obtain ⟨j4, hj4, h⟩ := ao_bind h
          refine an_getR r2 3 0 (q := (RX3, TX3, 12)) dX2_isWrong_13 rfl hk3 (Nat.le_of_ble_eq_true rfl) rfl lf_X2_264 hj4 ?_
          refine ao_iload_n 3 dX2_isWrong_16 rfl rfl ?_
          obtain ⟨hk5, h⟩ := ao_some h
          obtain ⟨hb6, h⟩ := ao_some h
          refine an_iaload j4 dX2_isWrong_17 hk5 hb6 ?_
          refine an_topi (fun v7 hv7 => ?_)
          replace h := ao_letD h hv7
          refine ao_istore 4 (lo' := [some (.ref (Γ.2.2.2 + r0)), some (.ref (Γ.2.2.2 + r1)), some (.ref (Γ.2.2.2 + r2)), some (.int x3), some (.int v7)]) dX2_isWrong_18 (Nat.le_of_ble_eq_true rfl) rfl ?_
          refine ao_iload 4 dX2_isWrong_20 rfl ?_
          refine ao_if_lt 32 dX2_isWrong_22 (by decide) (fun c8 => ?_) (fun c8 => ?_)
          · replace h := ao_ifT h c8
            refine ao_iconst (v := 0) dX2_isWrong_32 (by decide) ?_
            cases h
            exact ao_ireturn dX2_isWrong_33 rfl rfl ⟨rfl, rfl⟩
          · replace h := ao_ifF h c8
            refine ao_iload 4 dX2_isWrong_25 rfl ?_
            refine ao_bipush (v := 26) dX2_isWrong_27 (by decide) ?_
            refine ao_icmp_lt 34 dX2_isWrong_29 (by decide) (fun c9 => ?_) (fun c9 => ?_)
            · replace h := ao_ifT h c9
              refine ao_aload_n 0 dX2_isWrong_34 rfl rfl ?_
              obtain ⟨hk10, h⟩ := ao_some h
              refine an_getI r0 2 5 (q := (RX2, TX2, 7)) dX2_isWrong_35 rfl hk10 (Nat.le_of_ble_eq_true rfl) rfl lf_X2_41 ?_
              refine an_topi (fun v11 hv11 => ?_)
              replace h := ao_letD h hv11
              by_cases c12 : v11 = (0 : Int32)
              · replace h := ao_ifT h c12
                refine ao_tableIn 68 dX2_isWrong_38 (by rw [c12]; decide) (by rw [c12]; decide) (by rw [c12]; rfl) (by decide) ?_
                exact ih.2.1 r0 r1 r2 x3 v7 M _ h
              · replace h := ao_ifF h c12
                by_cases c13 : v11 = (1 : Int32)
                · replace h := ao_ifT h c13
                  refine ao_tableIn 91 dX2_isWrong_38 (by rw [c13]; decide) (by rw [c13]; decide) (by rw [c13]; rfl) (by decide) ?_
                  refine ao_aload_n 0 dX2_isWrong_91 rfl rfl ?_
                  obtain ⟨j14, hj14, h⟩ := ao_bind h
                  refine an_getR r0 2 0 (q := (RX2, TX2, 7)) dX2_isWrong_92 rfl hk10 (Nat.le_of_ble_eq_true rfl) rfl lf_X2_12 hj14 ?_
                  obtain ⟨hk15, h⟩ := ao_some h
                  obtain ⟨j16, hj16, h⟩ := ao_bind h
                  refine an_getR j14 5 0 (q := (RX5, TX5, 11)) dX2_isWrong_95 rfl hk15 (Nat.le_of_ble_eq_true rfl) rfl lf_X2_188 hj16 ?_
                  refine ao_iload 4 dX2_isWrong_98 rfl ?_
                  obtain ⟨hk17, h⟩ := ao_some h
                  obtain ⟨hb18, h⟩ := ao_some h
                  refine an_iaload j16 dX2_isWrong_100 hk17 hb18 ?_
                  refine ao_aload_n 2 dX2_isWrong_101 rfl rfl ?_
                  obtain ⟨j19, hj19, h⟩ := ao_bind h
                  refine an_getR r2 3 1 (q := (RX3, TX3, 12)) dX2_isWrong_102 rfl hk3 (Nat.le_of_ble_eq_true rfl) rfl lf_X2_267 hj19 ?_
                  refine ao_iload_n 3 dX2_isWrong_105 rfl rfl ?_
                  obtain ⟨hk20, h⟩ := ao_some h
                  obtain ⟨hb21, h⟩ := ao_some h
                  refine an_iaload j19 dX2_isWrong_106 hk20 hb21 ?_
                  refine ao_icmp_eq 114 dX2_isWrong_107 (by decide) (fun c22 => ?_) (fun c22 => ?_)
                  · replace h := ao_ifT h c22
                    refine ao_iconst (v := 0) dX2_isWrong_114 (by decide) ?_
                    cases h
                    exact ao_ireturn dX2_isWrong_115 rfl rfl ⟨rfl, rfl⟩
                  · replace h := ao_ifF h c22
                    refine ao_iconst (v := 1) dX2_isWrong_110 (by decide) ?_
                    refine ao_goto 115 dX2_isWrong_111 (by decide) ?_
                    cases h
                    exact ao_ireturn dX2_isWrong_115 rfl rfl ⟨rfl, rfl⟩
                · replace h := ao_ifF h c13
                  by_cases c23 : v11 = (2 : Int32)
                  · replace h := ao_ifT h c23
                    refine ao_tableIn 68 dX2_isWrong_38 (by rw [c23]; decide) (by rw [c23]; decide) (by rw [c23]; rfl) (by decide) ?_
                    exact ih.2.1 r0 r1 r2 x3 v7 M _ h
                  · replace h := ao_ifF h c23
                    by_cases c24 : v11 = (3 : Int32)
                    · replace h := ao_ifT h c24
                      refine ao_tableIn 116 dX2_isWrong_38 (by rw [c24]; decide) (by rw [c24]; decide) (by rw [c24]; rfl) (by decide) ?_
                      refine ao_aload_n 0 dX2_isWrong_116 rfl rfl ?_
                      obtain ⟨j25, hj25, h⟩ := ao_bind h
                      refine an_getR r0 2 0 (q := (RX2, TX2, 7)) dX2_isWrong_117 rfl hk10 (Nat.le_of_ble_eq_true rfl) rfl lf_X2_12 hj25 ?_
                      refine ao_iload 4 dX2_isWrong_120 rfl ?_
                      refine ao_aload_n 1 dX2_isWrong_122 rfl rfl ?_
                      obtain ⟨hk26, h⟩ := ao_some h
                      refine an_getI r1 7 0 (q := (RX7, TX7, 20)) dX2_isWrong_123 rfl hk26 (Nat.le_of_ble_eq_true rfl) rfl lf_X2_171 ?_
                      obtain ⟨hk27, h⟩ := ao_some h
                      obtain ⟨p28, hp28, h⟩ := ao_bind h
                      refine an_callVi j25 5 (q := (RX5, TX5, 11)) [.int v7, .int (M r1 0)] (aX5_isTakenByOther (d - 1) (by omega) j25 v7 (M r1 0) M ρ hp28) dX2_isWrong_126 lc_X2_251 li_X5_isTakenByOther ls_X5_isTakenByOther rfl hk27 rfl rfl (Nat.le_of_ble_eq_true rfl) (ao_hR (by omega) (by decide)) ?_
                      refine ao_if_ne 151 dX2_isWrong_129 (by decide) (fun c29 => ?_) (fun c29 => ?_)
                      · replace h := ao_ifF h c29
                        exact ih.2.2 r0 r1 r2 x3 v7 p28.2 _ h
                      · replace h := ao_ifT h c29
                        refine ao_aload_n 0 dX2_isWrong_132 rfl rfl ?_
                        refine an_getR r0 2 0 (q := (RX2, TX2, 7)) dX2_isWrong_133 rfl hk10 (Nat.le_of_ble_eq_true rfl) rfl lf_X2_12 hj25 ?_
                        obtain ⟨j30, hj30, h⟩ := ao_bind h
                        refine an_getR j25 5 1 (q := (RX5, TX5, 11)) dX2_isWrong_136 rfl hk27 (Nat.le_of_ble_eq_true rfl) rfl lf_X2_206 hj30 ?_
                        refine ao_iload 4 dX2_isWrong_139 rfl ?_
                        obtain ⟨hk31, h⟩ := ao_some h
                        obtain ⟨hb32, h⟩ := ao_some h
                        refine an_iaload j30 dX2_isWrong_141 hk31 hb32 ?_
                        refine ao_aload_n 2 dX2_isWrong_142 rfl rfl ?_
                        obtain ⟨j33, hj33, h⟩ := ao_bind h
                        refine an_getR r2 3 2 (q := (RX3, TX3, 12)) dX2_isWrong_143 rfl hk3 (Nat.le_of_ble_eq_true rfl) rfl lf_X2_270 hj33 ?_
                        refine ao_iload_n 3 dX2_isWrong_146 rfl rfl ?_
                        obtain ⟨hk34, h⟩ := ao_some h
                        obtain ⟨hb35, h⟩ := ao_some h
                        refine an_iaload j33 dX2_isWrong_147 hk34 hb35 ?_
                        refine ao_icmp_eq 155 dX2_isWrong_148 (by decide) (fun c36 => ?_) (fun c36 => ?_)
                        · replace h := ao_ifT h c36
                          refine ao_iconst (v := 0) dX2_isWrong_155 (by decide) ?_
                          cases h
                          exact ao_ireturn dX2_isWrong_156 rfl rfl ⟨rfl, rfl⟩
                        · replace h := ao_ifF h c36
                          exact ih.2.2 r0 r1 r2 x3 v7 p28.2 _ h
                    · replace h := ao_ifF h c24
                      refine ao_tableOut 157 dX2_isWrong_38 (by have nc12 := ao_ne (z := 0) c12 (by decide); have nc13 := ao_ne (z := 1) c13 (by decide); have nc23 := ao_ne (z := 2) c23 (by decide); have nc24 := ao_ne (z := 3) c24 (by decide); omega) (by decide) ?_
                      refine ao_iconst (v := 0) dX2_isWrong_157 (by decide) ?_
                      cases h
                      exact ao_ireturn dX2_isWrong_158 rfl rfl ⟨rfl, rfl⟩
            · replace h := ao_ifF h c9
              refine ao_iconst (v := 0) dX2_isWrong_32 (by decide) ?_
              cases h
              exact ao_ireturn dX2_isWrong_33 rfl rfl ⟨rfl, rfl⟩
        · replace h := ao_ifF h c2
          refine ao_iconst (v := 0) dX2_isWrong_10 (by decide) ?_
          cases h
          exact ao_ireturn dX2_isWrong_11 rfl rfl ⟨rfl, rfl⟩
    · intro r0 r1 r2 x3 x4 M y h
      replace h := ao_ifF h (by decide)
      replace h := ao_ifT h rfl
      refine ao_aload_n 0 dX2_isWrong_68 rfl rfl ?_
      obtain ⟨hk37, h⟩ := ao_some h
      obtain ⟨j38, hj38, h⟩ := ao_bind h
      refine an_getR r0 2 0 (q := (RX2, TX2, 7)) dX2_isWrong_69 rfl hk37 (Nat.le_of_ble_eq_true rfl) rfl lf_X2_12 hj38 ?_
      obtain ⟨hk39, h⟩ := ao_some h
      obtain ⟨j40, hj40, h⟩ := ao_bind h
      refine an_getR j38 5 1 (q := (RX5, TX5, 11)) dX2_isWrong_72 rfl hk39 (Nat.le_of_ble_eq_true rfl) rfl lf_X2_206 hj40 ?_
      refine ao_iload 4 dX2_isWrong_75 rfl ?_
      obtain ⟨hk41, h⟩ := ao_some h
      obtain ⟨hb42, h⟩ := ao_some h
      refine an_iaload j40 dX2_isWrong_77 hk41 hb42 ?_
      refine ao_aload_n 1 dX2_isWrong_78 rfl rfl ?_
      obtain ⟨hk43, h⟩ := ao_some h
      refine an_getI r1 7 14 (q := (RX7, TX7, 20)) dX2_isWrong_79 rfl hk43 (Nat.le_of_ble_eq_true rfl) rfl lf_X2_224 ?_
      refine ao_icmp_le 89 dX2_isWrong_82 (by decide) (fun c44 => ?_) (fun c44 => ?_)
      · replace h := ao_ifT h c44
        refine ao_iconst (v := 0) dX2_isWrong_89 (by decide) ?_
        cases h
        exact ao_ireturn dX2_isWrong_90 rfl rfl ⟨rfl, rfl⟩
      · replace h := ao_ifF h c44
        refine ao_iconst (v := 1) dX2_isWrong_85 (by decide) ?_
        refine ao_goto 90 dX2_isWrong_86 (by decide) ?_
        cases h
        exact ao_ireturn dX2_isWrong_90 rfl rfl ⟨rfl, rfl⟩
    · intro r0 r1 r2 x3 x4 M y h
      replace h := ao_ifF h (by decide)
      replace h := ao_ifF h (by decide)
      replace h := ao_ifT h rfl
      refine ao_iconst (v := 1) dX2_isWrong_151 (by decide) ?_
      refine ao_goto 156 dX2_isWrong_152 (by decide) ?_
      cases h
      exact ao_ireturn dX2_isWrong_156 rfl rfl ⟨rfl, rfl⟩
set_option maxRecDepth 100000 in
set_option maxHeartbeats 4000000 in
theorem aX2_isWrong {Γ : ao_C} (d : Nat) (hd : 1 ≤ d) (n : Nat) (r0 : Nat) (r1 : Nat) (r2 : Nat) (x3 : Int32) (M : ao_M) (ρ : ao_H) {y : Int32 × ao_M} (h : gX2_isWrong n r0 r1 r2 x3 M ρ = some y) : ao_A Γ uX2_isWrong d 0 0 [.ref (Γ.2.2.2 + r0), .ref (Γ.2.2.2 + r1), .ref (Γ.2.2.2 + r2), .int x3] (M, ρ) (ao_PI ρ y) := by
  refine ao_of (by decide) (ao_cat1 (Nat.le_of_ble_eq_true rfl)) (Nat.le_of_ble_eq_true rfl) ?_
  show ao_W Γ uX2_isWrong (ao_rm d 0 0) (ao_Q Γ (ao_PI ρ y) 0 0) 0 0 0 [some (.ref (Γ.2.2.2 + r0)), some (.ref (Γ.2.2.2 + r1)), some (.ref (Γ.2.2.2 + r2)), some (.int x3), none] [] (M, ρ)
  exact (wX2_isWrong d hd n).1 r0 r1 r2 x3 M y h

abbrev uX2_foldReads : ao_Mi := (yX2_foldReads, cX2_foldReads, 3, none, [])
def fX2_foldReads : Nat → Nat → Nat → Int32 → Int32 →  ao_M → ao_H → Option (ao_M)
  | 0, _, _, _, _, _, _ => none
  | n + 1, pc, r0, x1, x2, M, ρ =>
    if pc = 0 then
      if ρ.2.1 r0 = 17 then
      ao_let ((M r0 8) - (1 : Int32)) fun v2 =>
      fX2_foldReads n 7 r0 x1 v2 M ρ
      else none
    else if pc = 7 then
      if x2 ≤ x1 then
        some M
      else
        if x2 ≤ 0 then
          some M
        else
          if ρ.2.1 r0 = 17 then
          (gX7_level n r0 (x2 - (1 : Int32)) M ρ).bind fun p6 =>
          (gX7_level n r0 x2 p6.2 ρ).bind fun p7 =>
          if ρ.2.1 p6.1 = 13 then
          (gX3_takeReadsOf n p6.1 p7.1 p7.2 ρ).bind fun p9 =>
          ao_let (x2 + (-1 : Int32)) fun v10 =>
          fX2_foldReads n 7 r0 x1 v10 p9 ρ
          else none
          else none
    else none
def gX2_foldReads (n : Nat) (r0 : Nat) (x1 : Int32) (M : ao_M) (ρ : ao_H) : Option (ao_M) := fX2_foldReads n 0 r0 x1 0 M ρ
set_option maxRecDepth 100000 in
set_option maxHeartbeats 4000000 in
theorem wX2_foldReads {Γ : ao_C} {ρ : ao_H} (d : Nat) (hd : 2 ≤ d) : ∀ n : Nat, (∀ (r0 : Nat) (x1 : Int32) (M : ao_M) (y : ao_M), fX2_foldReads n 0 r0 x1 0 M ρ = some y → ao_W Γ uX2_foldReads (ao_rm d 0 0) (ao_Q Γ (ao_PV ρ y) 0 0) 0 0 0 [some (.ref (Γ.2.2.2 + r0)), some (.int x1), none] [] (M, ρ)) ∧ (∀ (r0 : Nat) (x1 : Int32) (x2 : Int32) (M : ao_M) (y : ao_M), fX2_foldReads n 7 r0 x1 x2 M ρ = some y → ao_W Γ uX2_foldReads (ao_rm d 0 0) (ao_Q Γ (ao_PV ρ y) 0 0) 0 0 7 [some (.ref (Γ.2.2.2 + r0)), some (.int x1), some (.int x2)] [] (M, ρ)) := by
  intro n
  induction n with
  | zero => exact ⟨fun _ _ _ _ h => ao_no h, fun _ _ _ _ _ h => ao_no h⟩
  | succ n ih =>
    refine ⟨?_, ?_⟩
    · intro r0 x1 M y h
      replace h := ao_ifT h rfl
      refine ao_aload_n 0 dX2_foldReads_0 rfl rfl ?_
      obtain ⟨hk1, h⟩ := ao_some h
      refine an_getI r0 7 8 (q := (RX7, TX7, 20)) dX2_foldReads_1 rfl hk1 (Nat.le_of_ble_eq_true rfl) rfl lf_X2_165 ?_
      refine ao_iconst (v := 1) dX2_foldReads_4 (by decide) ?_
      refine ao_isub dX2_foldReads_5 ?_
      refine an_topi (fun v2 hv2 => ?_)
      replace h := ao_letD h hv2
      refine ao_istore_n 2 (lo' := [some (.ref (Γ.2.2.2 + r0)), some (.int x1), some (.int v2)]) dX2_foldReads_6 rfl (Nat.le_of_ble_eq_true rfl) rfl ?_
      exact ih.2 r0 x1 v2 M _ h
    · intro r0 x1 x2 M y h
      replace h := ao_ifF h (by decide)
      replace h := ao_ifT h rfl
      refine ao_iload_n 2 dX2_foldReads_7 rfl rfl ?_
      refine ao_iload_n 1 dX2_foldReads_8 rfl rfl ?_
      refine ao_icmp_le 37 dX2_foldReads_9 (by decide) (fun c3 => ?_) (fun c3 => ?_)
      · replace h := ao_ifT h c3
        cases h
        exact ao_return dX2_foldReads_37 rfl ⟨rfl, rfl⟩
      · replace h := ao_ifF h c3
        refine ao_iload_n 2 dX2_foldReads_12 rfl rfl ?_
        refine ao_if_le 37 dX2_foldReads_13 (by decide) (fun c4 => ?_) (fun c4 => ?_)
        · replace h := ao_ifT h c4
          cases h
          exact ao_return dX2_foldReads_37 rfl ⟨rfl, rfl⟩
        · replace h := ao_ifF h c4
          refine ao_aload_n 0 dX2_foldReads_16 rfl rfl ?_
          refine ao_iload_n 2 dX2_foldReads_17 rfl rfl ?_
          refine ao_iconst (v := 1) dX2_foldReads_18 (by decide) ?_
          refine ao_isub dX2_foldReads_19 ?_
          obtain ⟨hk5, h⟩ := ao_some h
          obtain ⟨p6, hp6, h⟩ := ao_bind h
          refine an_callVr r0 7 (q := (RX7, TX7, 20)) [.int (x2 - (1 : Int32))] (aX7_level (d - 1) (by omega) _ r0 (x2 - (1 : Int32)) M ρ hp6) dX2_foldReads_20 lc_X2_213 li_X7_level ls_X7_level rfl hk5 rfl rfl (Nat.le_of_ble_eq_true rfl) (ao_hR (by omega) (by decide)) ?_
          refine ao_aload_n 0 dX2_foldReads_23 rfl rfl ?_
          refine ao_iload_n 2 dX2_foldReads_24 rfl rfl ?_
          obtain ⟨p7, hp7, h⟩ := ao_bind h
          refine an_callVr r0 7 (q := (RX7, TX7, 20)) [.int x2] (aX7_level (d - 1) (by omega) _ r0 x2 p6.2 ρ hp7) dX2_foldReads_25 lc_X2_213 li_X7_level ls_X7_level rfl hk5 rfl rfl (Nat.le_of_ble_eq_true rfl) (ao_hR (by omega) (by decide)) ?_
          obtain ⟨hk8, h⟩ := ao_some h
          obtain ⟨p9, hp9, h⟩ := ao_bind h
          refine an_callVv p6.1 3 (q := (RX3, TX3, 12)) [.ref (Γ.2.2.2 + p7.1)] (aX3_takeReadsOf (d - 1) (by omega) _ p6.1 p7.1 p7.2 ρ hp9) dX2_foldReads_28 lc_X2_307 li_X3_takeReadsOf ls_X3_takeReadsOf rfl hk8 rfl rfl (Nat.le_of_ble_eq_true rfl) (ao_hR (by omega) (by decide)) ?_
          obtain ⟨v10, hv10⟩ : ∃ z : Int32, z = x2 + (-1 : Int32) := ⟨_, rfl⟩
          replace h := ao_letD h hv10
          refine ao_iinc 2 (v := v10) (lo' := [some (.ref (Γ.2.2.2 + r0)), some (.int x1), some (.int v10)]) dX2_foldReads_31 rfl (by rw [hv10]; rfl) (Nat.le_of_ble_eq_true rfl) rfl ?_
          refine ao_goto 7 dX2_foldReads_34 (by decide) ?_
          exact ih.2 r0 x1 v10 p9 _ h
set_option maxRecDepth 100000 in
set_option maxHeartbeats 4000000 in
theorem aX2_foldReads {Γ : ao_C} (d : Nat) (hd : 2 ≤ d) (n : Nat) (r0 : Nat) (x1 : Int32) (M : ao_M) (ρ : ao_H) {y : ao_M} (h : gX2_foldReads n r0 x1 M ρ = some y) : ao_A Γ uX2_foldReads d 0 0 [.ref (Γ.2.2.2 + r0), .int x1] (M, ρ) (ao_PV ρ y) := by
  refine ao_of (by decide) (ao_cat1 (Nat.le_of_ble_eq_true rfl)) (Nat.le_of_ble_eq_true rfl) ?_
  show ao_W Γ uX2_foldReads (ao_rm d 0 0) (ao_Q Γ (ao_PV ρ y) 0 0) 0 0 0 [some (.ref (Γ.2.2.2 + r0)), some (.int x1), none] [] (M, ρ)
  exact (wX2_foldReads d hd n).1 r0 x1 M y h

abbrev uX2_joinAround : ao_Mi := (yX2_joinAround, cX2_joinAround, 5, none, [])
def fX2_joinAround : Nat → Nat → Nat → Nat → Nat → Nat → Int32 →  ao_M → ao_H → Option (ao_M)
  | 0, _, _, _, _, _, _, _, _ => none
  | n + 1, pc, r0, r1, r2, r3, x4, M, ρ =>
    if pc = 0 then
      if ρ.2.1 r1 = 17 then
      (gX7_level n r1 ((M r1 8) - (1 : Int32)) M ρ).bind fun p2 =>
      (gX7_level n r1 ((p2.2 r1 8) - (2 : Int32)) p2.2 ρ).bind fun p3 =>
      if ρ.2.1 p3.1 = 13 then
      (gX3_takeReadsOf n p3.1 p2.1 p3.2 ρ).bind fun p5 =>
      fX2_joinAround n 30 r0 r1 p2.1 p3.1 (0 : Int32) p5 ρ
      else none
      else none
    else if pc = 30 then
      if (26 : Int32) ≤ x4 then
        if ρ.2.1 r2 = 13 then
        (gX3_forgetWrites r2 M ρ).bind fun p8 =>
        if ρ.2.1 r1 = 17 then
        ao_let (ao_u p8 r1 8 ((p8 r1 8) - (1 : Int32))) fun M10 =>
        some M10
        else none
        else none
      else
        if ρ.2.1 r2 = 13 then
        (gX3_wrote r2 x4 M ρ).bind fun p12 =>
        if p12.1 = 0 then
          fX2_joinAround n 75 r0 r1 r2 r3 x4 p12.2 ρ
        else
          if ρ.2.1 r0 = 12 then
          (gX2_writesAtOnce n r0 p12.2 ρ).bind fun p15 =>
          if p15.1 = 0 then
            fX2_joinAround n 62 r0 r1 r2 r3 x4 p15.2 ρ
          else
            if ρ.2.1 r3 = 13 then
            (gX3_wrote r3 x4 p15.2 ρ).bind fun p18 =>
            if p18.1 = 0 then
              fX2_joinAround n 62 r0 r1 r2 r3 x4 p18.2 ρ
            else
              fX2_joinAround n 75 r0 r1 r2 r3 x4 p18.2 ρ
            else none
          else none
        else none
    else if pc = 62 then
      if ρ.2.1 r2 = 13 then
      (ρ.1 r2 5).bind fun j21 =>
      if ρ.2.1 j21 = 0 then
      if ¬ (x4 < 0 ∨ ρ.2.2.1 j21 ≤ x4.toNatClampNeg) then
      if ρ.2.1 r3 = 13 then
      (gX3_addWrite r3 x4 (M j21 x4.toNatClampNeg) M ρ).bind fun p25 =>
      fX2_joinAround n 75 r0 r1 r2 r3 x4 p25 ρ
      else none
      else none
      else none
      else none
    else if pc = 75 then
      ao_let (x4 + (1 : Int32)) fun v26 =>
      fX2_joinAround n 30 r0 r1 r2 r3 v26 M ρ
    else none
def gX2_joinAround (n : Nat) (r0 : Nat) (r1 : Nat) (M : ao_M) (ρ : ao_H) : Option (ao_M) := fX2_joinAround n 0 r0 r1 0 0 0 M ρ
set_option maxRecDepth 100000 in
set_option maxHeartbeats 4000000 in
theorem wX2_joinAround {Γ : ao_C} {ρ : ao_H} (d : Nat) (hd : 2 ≤ d) : ∀ n : Nat, (∀ (r0 : Nat) (r1 : Nat) (M : ao_M) (y : ao_M), fX2_joinAround n 0 r0 r1 0 0 0 M ρ = some y → ao_W Γ uX2_joinAround (ao_rm d 0 0) (ao_Q Γ (ao_PV ρ y) 0 0) 0 0 0 [some (.ref (Γ.2.2.2 + r0)), some (.ref (Γ.2.2.2 + r1)), none, none, none] [] (M, ρ)) ∧ (∀ (r0 : Nat) (r1 : Nat) (r2 : Nat) (r3 : Nat) (x4 : Int32) (M : ao_M) (y : ao_M), fX2_joinAround n 30 r0 r1 r2 r3 x4 M ρ = some y → ao_W Γ uX2_joinAround (ao_rm d 0 0) (ao_Q Γ (ao_PV ρ y) 0 0) 0 0 30 [some (.ref (Γ.2.2.2 + r0)), some (.ref (Γ.2.2.2 + r1)), some (.ref (Γ.2.2.2 + r2)), some (.ref (Γ.2.2.2 + r3)), some (.int x4)] [] (M, ρ)) ∧ (∀ (r0 : Nat) (r1 : Nat) (r2 : Nat) (r3 : Nat) (x4 : Int32) (M : ao_M) (y : ao_M), fX2_joinAround n 62 r0 r1 r2 r3 x4 M ρ = some y → ao_W Γ uX2_joinAround (ao_rm d 0 0) (ao_Q Γ (ao_PV ρ y) 0 0) 0 0 62 [some (.ref (Γ.2.2.2 + r0)), some (.ref (Γ.2.2.2 + r1)), some (.ref (Γ.2.2.2 + r2)), some (.ref (Γ.2.2.2 + r3)), some (.int x4)] [] (M, ρ)) ∧ (∀ (r0 : Nat) (r1 : Nat) (r2 : Nat) (r3 : Nat) (x4 : Int32) (M : ao_M) (y : ao_M), fX2_joinAround n 75 r0 r1 r2 r3 x4 M ρ = some y → ao_W Γ uX2_joinAround (ao_rm d 0 0) (ao_Q Γ (ao_PV ρ y) 0 0) 0 0 75 [some (.ref (Γ.2.2.2 + r0)), some (.ref (Γ.2.2.2 + r1)), some (.ref (Γ.2.2.2 + r2)), some (.ref (Γ.2.2.2 + r3)), some (.int x4)] [] (M, ρ)) := by
  intro n
  induction n with
  | zero => exact ⟨fun _ _ _ _ h => ao_no h, fun _ _ _ _ _ _ _ h => ao_no h, fun _ _ _ _ _ _ _ h => ao_no h, fun _ _ _ _ _ _ _ h => ao_no h⟩
  | succ n ih =>
    refine ⟨?_, ?_, ?_, ?_⟩
    · intro r0 r1 M y h
      replace h := ao_ifT h rfl
      refine ao_aload_n 1 dX2_joinAround_0 rfl rfl ?_
      refine ao_aload_n 1 dX2_joinAround_1 rfl rfl ?_
      obtain ⟨hk1, h⟩ := ao_some h
      refine an_getI r1 7 8 (q := (RX7, TX7, 20)) dX2_joinAround_2 rfl hk1 (Nat.le_of_ble_eq_true rfl) rfl lf_X2_165 ?_
      refine ao_iconst (v := 1) dX2_joinAround_5 (by decide) ?_
      refine ao_isub dX2_joinAround_6 ?_
      obtain ⟨p2, hp2, h⟩ := ao_bind h
      refine an_callVr r1 7 (q := (RX7, TX7, 20)) [.int ((M r1 8) - (1 : Int32))] (aX7_level (d - 1) (by omega) _ r1 ((M r1 8) - (1 : Int32)) M ρ hp2) dX2_joinAround_7 lc_X2_213 li_X7_level ls_X7_level rfl hk1 rfl rfl (Nat.le_of_ble_eq_true rfl) (ao_hR (by omega) (by decide)) ?_
      refine ao_astore_n 2 (lo' := [some (.ref (Γ.2.2.2 + r0)), some (.ref (Γ.2.2.2 + r1)), some (.ref (Γ.2.2.2 + p2.1)), none, none]) dX2_joinAround_10 rfl (Nat.le_of_ble_eq_true rfl) rfl ?_
      refine ao_aload_n 1 dX2_joinAround_11 rfl rfl ?_
      refine ao_aload_n 1 dX2_joinAround_12 rfl rfl ?_
      refine an_getI r1 7 8 (q := (RX7, TX7, 20)) dX2_joinAround_13 rfl hk1 (Nat.le_of_ble_eq_true rfl) rfl lf_X2_165 ?_
      refine ao_iconst (v := 2) dX2_joinAround_16 (by decide) ?_
      refine ao_isub dX2_joinAround_17 ?_
      obtain ⟨p3, hp3, h⟩ := ao_bind h
      refine an_callVr r1 7 (q := (RX7, TX7, 20)) [.int ((p2.2 r1 8) - (2 : Int32))] (aX7_level (d - 1) (by omega) _ r1 ((p2.2 r1 8) - (2 : Int32)) p2.2 ρ hp3) dX2_joinAround_18 lc_X2_213 li_X7_level ls_X7_level rfl hk1 rfl rfl (Nat.le_of_ble_eq_true rfl) (ao_hR (by omega) (by decide)) ?_
      refine ao_astore_n 3 (lo' := [some (.ref (Γ.2.2.2 + r0)), some (.ref (Γ.2.2.2 + r1)), some (.ref (Γ.2.2.2 + p2.1)), some (.ref (Γ.2.2.2 + p3.1)), none]) dX2_joinAround_21 rfl (Nat.le_of_ble_eq_true rfl) rfl ?_
      refine ao_aload_n 3 dX2_joinAround_22 rfl rfl ?_
      refine ao_aload_n 2 dX2_joinAround_23 rfl rfl ?_
      obtain ⟨hk4, h⟩ := ao_some h
      obtain ⟨p5, hp5, h⟩ := ao_bind h
      refine an_callVv p3.1 3 (q := (RX3, TX3, 12)) [.ref (Γ.2.2.2 + p2.1)] (aX3_takeReadsOf (d - 1) (by omega) _ p3.1 p2.1 p3.2 ρ hp5) dX2_joinAround_24 lc_X2_307 li_X3_takeReadsOf ls_X3_takeReadsOf rfl hk4 rfl rfl (Nat.le_of_ble_eq_true rfl) (ao_hR (by omega) (by decide)) ?_
      refine ao_iconst (v := 0) dX2_joinAround_27 (by decide) ?_
      refine ao_istore 4 (lo' := [some (.ref (Γ.2.2.2 + r0)), some (.ref (Γ.2.2.2 + r1)), some (.ref (Γ.2.2.2 + p2.1)), some (.ref (Γ.2.2.2 + p3.1)), some (.int (0 : Int32))]) dX2_joinAround_28 (Nat.le_of_ble_eq_true rfl) rfl ?_
      exact ih.2.1 r0 r1 p2.1 p3.1 (0 : Int32) p5 _ h
    · intro r0 r1 r2 r3 x4 M y h
      replace h := ao_ifF h (by decide)
      replace h := ao_ifT h rfl
      refine ao_iload 4 dX2_joinAround_30 rfl ?_
      refine ao_bipush (v := 26) dX2_joinAround_32 (by decide) ?_
      refine ao_icmp_ge 81 dX2_joinAround_34 (by decide) (fun c6 => ?_) (fun c6 => ?_)
      · replace h := ao_ifT h c6
        refine ao_aload_n 2 dX2_joinAround_81 rfl rfl ?_
        obtain ⟨hk7, h⟩ := ao_some h
        obtain ⟨p8, hp8, h⟩ := ao_bind h
        refine an_callVv r2 3 (q := (RX3, TX3, 12)) [] (aX3_forgetWrites (d - 1) (by omega) r2 M ρ hp8) dX2_joinAround_82 lc_X2_298 li_X3_forgetWrites ls_X3_forgetWrites rfl hk7 rfl rfl (Nat.le_of_ble_eq_true rfl) (ao_hR (by omega) (by decide)) ?_
        refine ao_aload_n 1 dX2_joinAround_85 rfl rfl ?_
        refine ao_dup dX2_joinAround_86 rfl ?_
        obtain ⟨hk9, h⟩ := ao_some h
        refine an_getI r1 7 8 (q := (RX7, TX7, 20)) dX2_joinAround_87 rfl hk9 (Nat.le_of_ble_eq_true rfl) rfl lf_X2_165 ?_
        refine ao_iconst (v := 1) dX2_joinAround_90 (by decide) ?_
        refine ao_isub dX2_joinAround_91 ?_
        refine an_putI r1 7 8 (q := (RX7, TX7, 20)) dX2_joinAround_92 rfl hk9 (Nat.le_of_ble_eq_true rfl) lf_X2_165 rfl rfl rfl rfl (fun M10 hM10 => ?_)
        replace h := ao_letD h hM10
        cases h
        exact ao_return dX2_joinAround_95 rfl ⟨rfl, rfl⟩
      · replace h := ao_ifF h c6
        refine ao_aload_n 2 dX2_joinAround_37 rfl rfl ?_
        refine ao_iload 4 dX2_joinAround_38 rfl ?_
        obtain ⟨hk11, h⟩ := ao_some h
        obtain ⟨p12, hp12, h⟩ := ao_bind h
        refine an_callVi r2 3 (q := (RX3, TX3, 12)) [.int x4] (aX3_wrote (d - 1) (by omega) r2 x4 M ρ hp12) dX2_joinAround_40 lc_X2_217 li_X3_wrote ls_X3_wrote rfl hk11 rfl rfl (Nat.le_of_ble_eq_true rfl) (ao_hR (by omega) (by decide)) ?_
        refine ao_if_eq 75 dX2_joinAround_43 (by decide) (fun c13 => ?_) (fun c13 => ?_)
        · replace h := ao_ifT h c13
          exact ih.2.2.2 r0 r1 r2 r3 x4 p12.2 _ h
        · replace h := ao_ifF h c13
          refine ao_aload_n 0 dX2_joinAround_46 rfl rfl ?_
          obtain ⟨hk14, h⟩ := ao_some h
          obtain ⟨p15, hp15, h⟩ := ao_bind h
          refine an_callVi r0 2 (q := (RX2, TX2, 7)) [] (aX2_writesAtOnce (d - 1) (by omega) _ r0 p12.2 ρ hp15) dX2_joinAround_47 lc_X2_178 li_X2_writesAtOnce ls_X2_writesAtOnce rfl hk14 rfl rfl (Nat.le_of_ble_eq_true rfl) (ao_hR (by omega) (by decide)) ?_
          refine ao_if_eq 62 dX2_joinAround_50 (by decide) (fun c16 => ?_) (fun c16 => ?_)
          · replace h := ao_ifT h c16
            exact ih.2.2.1 r0 r1 r2 r3 x4 p15.2 _ h
          · replace h := ao_ifF h c16
            refine ao_aload_n 3 dX2_joinAround_53 rfl rfl ?_
            refine ao_iload 4 dX2_joinAround_54 rfl ?_
            obtain ⟨hk17, h⟩ := ao_some h
            obtain ⟨p18, hp18, h⟩ := ao_bind h
            refine an_callVi r3 3 (q := (RX3, TX3, 12)) [.int x4] (aX3_wrote (d - 1) (by omega) r3 x4 p15.2 ρ hp18) dX2_joinAround_56 lc_X2_217 li_X3_wrote ls_X3_wrote rfl hk17 rfl rfl (Nat.le_of_ble_eq_true rfl) (ao_hR (by omega) (by decide)) ?_
            refine ao_if_ne 75 dX2_joinAround_59 (by decide) (fun c19 => ?_) (fun c19 => ?_)
            · replace h := ao_ifF h c19
              exact ih.2.2.2 r0 r1 r2 r3 x4 p18.2 _ h
            · replace h := ao_ifT h c19
              exact ih.2.2.1 r0 r1 r2 r3 x4 p18.2 _ h
    · intro r0 r1 r2 r3 x4 M y h
      replace h := ao_ifF h (by decide)
      replace h := ao_ifF h (by decide)
      replace h := ao_ifT h rfl
      refine ao_aload_n 3 dX2_joinAround_62 rfl rfl ?_
      refine ao_iload 4 dX2_joinAround_63 rfl ?_
      refine ao_aload_n 2 dX2_joinAround_65 rfl rfl ?_
      obtain ⟨hk20, h⟩ := ao_some h
      obtain ⟨j21, hj21, h⟩ := ao_bind h
      refine an_getR r2 3 5 (q := (RX3, TX3, 12)) dX2_joinAround_66 rfl hk20 (Nat.le_of_ble_eq_true rfl) rfl lf_X2_221 hj21 ?_
      refine ao_iload 4 dX2_joinAround_69 rfl ?_
      obtain ⟨hk22, h⟩ := ao_some h
      obtain ⟨hb23, h⟩ := ao_some h
      refine an_iaload j21 dX2_joinAround_71 hk22 hb23 ?_
      obtain ⟨hk24, h⟩ := ao_some h
      obtain ⟨p25, hp25, h⟩ := ao_bind h
      refine an_callVv r3 3 (q := (RX3, TX3, 12)) [.int x4, .int (M j21 x4.toNatClampNeg)] (aX3_addWrite (d - 1) (by omega) r3 x4 (M j21 x4.toNatClampNeg) M ρ hp25) dX2_joinAround_72 lc_X2_244 li_X3_addWrite ls_X3_addWrite rfl hk24 rfl rfl (Nat.le_of_ble_eq_true rfl) (ao_hR (by omega) (by decide)) ?_
      exact ih.2.2.2 r0 r1 r2 r3 x4 p25 _ h
    · intro r0 r1 r2 r3 x4 M y h
      replace h := ao_ifF h (by decide)
      replace h := ao_ifF h (by decide)
      replace h := ao_ifF h (by decide)
      replace h := ao_ifT h rfl
      obtain ⟨v26, hv26⟩ : ∃ z : Int32, z = x4 + (1 : Int32) := ⟨_, rfl⟩
      replace h := ao_letD h hv26
      refine ao_iinc 4 (v := v26) (lo' := [some (.ref (Γ.2.2.2 + r0)), some (.ref (Γ.2.2.2 + r1)), some (.ref (Γ.2.2.2 + r2)), some (.ref (Γ.2.2.2 + r3)), some (.int v26)]) dX2_joinAround_75 rfl (by rw [hv26]; rfl) (Nat.le_of_ble_eq_true rfl) rfl ?_
      refine ao_goto 30 dX2_joinAround_78 (by decide) ?_
      exact ih.2.1 r0 r1 r2 r3 v26 M _ h
set_option maxRecDepth 100000 in
set_option maxHeartbeats 4000000 in
theorem aX2_joinAround {Γ : ao_C} (d : Nat) (hd : 2 ≤ d) (n : Nat) (r0 : Nat) (r1 : Nat) (M : ao_M) (ρ : ao_H) {y : ao_M} (h : gX2_joinAround n r0 r1 M ρ = some y) : ao_A Γ uX2_joinAround d 0 0 [.ref (Γ.2.2.2 + r0), .ref (Γ.2.2.2 + r1)] (M, ρ) (ao_PV ρ y) := by
  refine ao_of (by decide) (ao_cat1 (Nat.le_of_ble_eq_true rfl)) (Nat.le_of_ble_eq_true rfl) ?_
  show ao_W Γ uX2_joinAround (ao_rm d 0 0) (ao_Q Γ (ao_PV ρ y) 0 0) 0 0 0 [some (.ref (Γ.2.2.2 + r0)), some (.ref (Γ.2.2.2 + r1)), none, none, none] [] (M, ρ)
  exact (wX2_joinAround d hd n).1 r0 r1 M y h

abbrev uX2_hasNews : ao_Mi := (yX2_hasNews, cX2_hasNews, 5, (some .boolean), [])
def fX2_hasNews : Nat → Nat → Nat → Nat → Nat → Int32 → Int32 →  ao_M → ao_H → Option (Int32 × ao_M)
  | 0, _, _, _, _, _, _, _, _ => none
  | n + 1, pc, r0, r1, r2, x3, x4, M, ρ =>
    if pc = 0 then
      if ρ.2.1 r1 = 17 then
      (gX7_level n r1 (0 : Int32) M ρ).bind fun p2 =>
      fX2_hasNews n 8 r0 r1 p2.1 (0 : Int32) 0 p2.2 ρ
      else none
    else if pc = 8 then
      if ρ.2.1 r2 = 13 then
      if (M r2 3) ≤ x3 then
        some ((0 : Int32), M)
      else
        if (26 : Int32) ≤ x3 then
          some ((0 : Int32), M)
        else
          (ρ.1 r2 0).bind fun j6 =>
          if ρ.2.1 j6 = 0 then
          if ¬ (x3 < 0 ∨ ρ.2.2.1 j6 ≤ x3.toNatClampNeg) then
          ao_let (M j6 x3.toNatClampNeg) fun v9 =>
          if v9 < 0 then
            fX2_hasNews n 79 r0 r1 r2 x3 v9 M ρ
          else
            if (26 : Int32) ≤ v9 then
              fX2_hasNews n 79 r0 r1 r2 x3 v9 M ρ
            else
              if ρ.2.1 r0 = 12 then
              (ρ.1 r0 0).bind fun j13 =>
              if ρ.2.1 r1 = 17 then
              if ρ.2.1 j13 = 15 then
              (gX5_isTakenByOther j13 v9 (M r1 0) M ρ).bind fun p16 =>
              if p16.1 = 0 then
                (ρ.1 j13 0).bind fun j18 =>
                if ρ.2.1 j18 = 0 then
                if ¬ (v9 < 0 ∨ ρ.2.2.1 j18 ≤ v9.toNatClampNeg) then
                (ρ.1 r2 1).bind fun j21 =>
                if ρ.2.1 j21 = 0 then
                if ¬ (x3 < 0 ∨ ρ.2.2.1 j21 ≤ x3.toNatClampNeg) then
                if (p16.2 j18 v9.toNatClampNeg) = (p16.2 j21 x3.toNatClampNeg) then
                  fX2_hasNews n 79 r0 r1 r2 x3 v9 p16.2 ρ
                else
                  some ((1 : Int32), p16.2)
                else none
                else none
                else none
                else none
              else
                fX2_hasNews n 79 r0 r1 r2 x3 v9 p16.2 ρ
              else none
              else none
              else none
          else none
          else none
      else none
    else if pc = 79 then
      ao_let (x3 + (1 : Int32)) fun v25 =>
      fX2_hasNews n 8 r0 r1 r2 v25 0 M ρ
    else none
def gX2_hasNews (n : Nat) (r0 : Nat) (r1 : Nat) (M : ao_M) (ρ : ao_H) : Option (Int32 × ao_M) := fX2_hasNews n 0 r0 r1 0 0 0 M ρ
set_option maxRecDepth 100000 in
set_option maxHeartbeats 4000000 in
theorem wX2_hasNews {Γ : ao_C} {ρ : ao_H} (d : Nat) (hd : 1 ≤ d) : ∀ n : Nat, (∀ (r0 : Nat) (r1 : Nat) (M : ao_M) (y : Int32 × ao_M), fX2_hasNews n 0 r0 r1 0 0 0 M ρ = some y → ao_W Γ uX2_hasNews (ao_rm d 0 0) (ao_Q Γ (ao_PI ρ y) 0 0) 0 0 0 [some (.ref (Γ.2.2.2 + r0)), some (.ref (Γ.2.2.2 + r1)), none, none, none] [] (M, ρ)) ∧ (∀ (r0 : Nat) (r1 : Nat) (r2 : Nat) (x3 : Int32) (M : ao_M) (y : Int32 × ao_M), fX2_hasNews n 8 r0 r1 r2 x3 0 M ρ = some y → ao_W Γ uX2_hasNews (ao_rm d 0 0) (ao_Q Γ (ao_PI ρ y) 0 0) 0 0 8 [some (.ref (Γ.2.2.2 + r0)), some (.ref (Γ.2.2.2 + r1)), some (.ref (Γ.2.2.2 + r2)), some (.int x3), none] [] (M, ρ)) ∧ (∀ (r0 : Nat) (r1 : Nat) (r2 : Nat) (x3 : Int32) (x4 : Int32) (M : ao_M) (y : Int32 × ao_M), fX2_hasNews n 79 r0 r1 r2 x3 x4 M ρ = some y → ao_W Γ uX2_hasNews (ao_rm d 0 0) (ao_Q Γ (ao_PI ρ y) 0 0) 0 0 79 [some (.ref (Γ.2.2.2 + r0)), some (.ref (Γ.2.2.2 + r1)), some (.ref (Γ.2.2.2 + r2)), some (.int x3), some (.int x4)] [] (M, ρ)) := by
  intro n
  induction n with
  | zero => exact ⟨fun _ _ _ _ h => ao_no h, fun _ _ _ _ _ _ h => ao_no h, fun _ _ _ _ _ _ _ h => ao_no h⟩
  | succ n ih =>
    refine ⟨?_, ?_, ?_⟩
    · intro r0 r1 M y h
      replace h := ao_ifT h rfl
      refine ao_aload_n 1 dX2_hasNews_0 rfl rfl ?_
      refine ao_iconst (v := 0) dX2_hasNews_1 (by decide) ?_
      obtain ⟨hk1, h⟩ := ao_some h
      obtain ⟨p2, hp2, h⟩ := ao_bind h
      refine an_callVr r1 7 (q := (RX7, TX7, 20)) [.int (0 : Int32)] (aX7_level (d - 1) (by omega) _ r1 (0 : Int32) M ρ hp2) dX2_hasNews_2 lc_X2_213 li_X7_level ls_X7_level rfl hk1 rfl rfl (Nat.le_of_ble_eq_true rfl) (ao_hR (by omega) (by decide)) ?_
      refine ao_astore_n 2 (lo' := [some (.ref (Γ.2.2.2 + r0)), some (.ref (Γ.2.2.2 + r1)), some (.ref (Γ.2.2.2 + p2.1)), none, none]) dX2_hasNews_5 rfl (Nat.le_of_ble_eq_true rfl) rfl ?_
      refine ao_iconst (v := 0) dX2_hasNews_6 (by decide) ?_
      refine ao_istore_n 3 (lo' := [some (.ref (Γ.2.2.2 + r0)), some (.ref (Γ.2.2.2 + r1)), some (.ref (Γ.2.2.2 + p2.1)), some (.int (0 : Int32)), none]) dX2_hasNews_7 rfl (Nat.le_of_ble_eq_true rfl) rfl ?_
      exact ih.2.1 r0 r1 p2.1 (0 : Int32) p2.2 _ h
    · intro r0 r1 r2 x3 M y h
      replace h := ao_ifF h (by decide)
      replace h := ao_ifT h rfl
      refine ao_iload_n 3 dX2_hasNews_8 rfl rfl ?_
      refine ao_aload_n 2 dX2_hasNews_9 rfl rfl ?_
      obtain ⟨hk3, h⟩ := ao_some h
      refine an_getI r2 3 3 (q := (RX3, TX3, 12)) dX2_hasNews_10 rfl hk3 (Nat.le_of_ble_eq_true rfl) rfl lf_X2_257 ?_
      refine ao_icmp_ge 85 dX2_hasNews_13 (by decide) (fun c4 => ?_) (fun c4 => ?_)
      · replace h := ao_ifT h c4
        refine ao_iconst (v := 0) dX2_hasNews_85 (by decide) ?_
        cases h
        exact ao_ireturn dX2_hasNews_86 rfl rfl ⟨rfl, rfl⟩
      · replace h := ao_ifF h c4
        refine ao_iload_n 3 dX2_hasNews_16 rfl rfl ?_
        refine ao_bipush (v := 26) dX2_hasNews_17 (by decide) ?_
        refine ao_icmp_ge 85 dX2_hasNews_19 (by decide) (fun c5 => ?_) (fun c5 => ?_)
        · replace h := ao_ifT h c5
          refine ao_iconst (v := 0) dX2_hasNews_85 (by decide) ?_
          cases h
          exact ao_ireturn dX2_hasNews_86 rfl rfl ⟨rfl, rfl⟩
        · replace h := ao_ifF h c5
          refine ao_aload_n 2 dX2_hasNews_22 rfl rfl ?_
          obtain ⟨j6, hj6, h⟩ := ao_bind h
          refine an_getR r2 3 0 (q := (RX3, TX3, 12)) dX2_hasNews_23 rfl hk3 (Nat.le_of_ble_eq_true rfl) rfl lf_X2_264 hj6 ?_
          refine ao_iload_n 3 dX2_hasNews_26 rfl rfl ?_
          obtain ⟨hk7, h⟩ := ao_some h
          obtain ⟨hb8, h⟩ := ao_some h
          refine an_iaload j6 dX2_hasNews_27 hk7 hb8 ?_
          refine an_topi (fun v9 hv9 => ?_)
          replace h := ao_letD h hv9
          refine ao_istore 4 (lo' := [some (.ref (Γ.2.2.2 + r0)), some (.ref (Γ.2.2.2 + r1)), some (.ref (Γ.2.2.2 + r2)), some (.int x3), some (.int v9)]) dX2_hasNews_28 (Nat.le_of_ble_eq_true rfl) rfl ?_
          refine ao_iload 4 dX2_hasNews_30 rfl ?_
          refine ao_if_lt 79 dX2_hasNews_32 (by decide) (fun c10 => ?_) (fun c10 => ?_)
          · replace h := ao_ifT h c10
            exact ih.2.2 r0 r1 r2 x3 v9 M _ h
          · replace h := ao_ifF h c10
            refine ao_iload 4 dX2_hasNews_35 rfl ?_
            refine ao_bipush (v := 26) dX2_hasNews_37 (by decide) ?_
            refine ao_icmp_ge 79 dX2_hasNews_39 (by decide) (fun c11 => ?_) (fun c11 => ?_)
            · replace h := ao_ifT h c11
              exact ih.2.2 r0 r1 r2 x3 v9 M _ h
            · replace h := ao_ifF h c11
              refine ao_aload_n 0 dX2_hasNews_42 rfl rfl ?_
              obtain ⟨hk12, h⟩ := ao_some h
              obtain ⟨j13, hj13, h⟩ := ao_bind h
              refine an_getR r0 2 0 (q := (RX2, TX2, 7)) dX2_hasNews_43 rfl hk12 (Nat.le_of_ble_eq_true rfl) rfl lf_X2_12 hj13 ?_
              refine ao_iload 4 dX2_hasNews_46 rfl ?_
              refine ao_aload_n 1 dX2_hasNews_48 rfl rfl ?_
              obtain ⟨hk14, h⟩ := ao_some h
              refine an_getI r1 7 0 (q := (RX7, TX7, 20)) dX2_hasNews_49 rfl hk14 (Nat.le_of_ble_eq_true rfl) rfl lf_X2_171 ?_
              obtain ⟨hk15, h⟩ := ao_some h
              obtain ⟨p16, hp16, h⟩ := ao_bind h
              refine an_callVi j13 5 (q := (RX5, TX5, 11)) [.int v9, .int (M r1 0)] (aX5_isTakenByOther (d - 1) (by omega) j13 v9 (M r1 0) M ρ hp16) dX2_hasNews_52 lc_X2_251 li_X5_isTakenByOther ls_X5_isTakenByOther rfl hk15 rfl rfl (Nat.le_of_ble_eq_true rfl) (ao_hR (by omega) (by decide)) ?_
              refine ao_if_ne 79 dX2_hasNews_55 (by decide) (fun c17 => ?_) (fun c17 => ?_)
              · replace h := ao_ifF h c17
                exact ih.2.2 r0 r1 r2 x3 v9 p16.2 _ h
              · replace h := ao_ifT h c17
                refine ao_aload_n 0 dX2_hasNews_58 rfl rfl ?_
                refine an_getR r0 2 0 (q := (RX2, TX2, 7)) dX2_hasNews_59 rfl hk12 (Nat.le_of_ble_eq_true rfl) rfl lf_X2_12 hj13 ?_
                obtain ⟨j18, hj18, h⟩ := ao_bind h
                refine an_getR j13 5 0 (q := (RX5, TX5, 11)) dX2_hasNews_62 rfl hk15 (Nat.le_of_ble_eq_true rfl) rfl lf_X2_188 hj18 ?_
                refine ao_iload 4 dX2_hasNews_65 rfl ?_
                obtain ⟨hk19, h⟩ := ao_some h
                obtain ⟨hb20, h⟩ := ao_some h
                refine an_iaload j18 dX2_hasNews_67 hk19 hb20 ?_
                refine ao_aload_n 2 dX2_hasNews_68 rfl rfl ?_
                obtain ⟨j21, hj21, h⟩ := ao_bind h
                refine an_getR r2 3 1 (q := (RX3, TX3, 12)) dX2_hasNews_69 rfl hk3 (Nat.le_of_ble_eq_true rfl) rfl lf_X2_267 hj21 ?_
                refine ao_iload_n 3 dX2_hasNews_72 rfl rfl ?_
                obtain ⟨hk22, h⟩ := ao_some h
                obtain ⟨hb23, h⟩ := ao_some h
                refine an_iaload j21 dX2_hasNews_73 hk22 hb23 ?_
                refine ao_icmp_eq 79 dX2_hasNews_74 (by decide) (fun c24 => ?_) (fun c24 => ?_)
                · replace h := ao_ifT h c24
                  exact ih.2.2 r0 r1 r2 x3 v9 p16.2 _ h
                · replace h := ao_ifF h c24
                  refine ao_iconst (v := 1) dX2_hasNews_77 (by decide) ?_
                  cases h
                  exact ao_ireturn dX2_hasNews_78 rfl rfl ⟨rfl, rfl⟩
    · intro r0 r1 r2 x3 x4 M y h
      replace h := ao_ifF h (by decide)
      replace h := ao_ifF h (by decide)
      replace h := ao_ifT h rfl
      obtain ⟨v25, hv25⟩ : ∃ z : Int32, z = x3 + (1 : Int32) := ⟨_, rfl⟩
      replace h := ao_letD h hv25
      refine ao_iinc 3 (v := v25) (lo' := [some (.ref (Γ.2.2.2 + r0)), some (.ref (Γ.2.2.2 + r1)), some (.ref (Γ.2.2.2 + r2)), some (.int v25), some (.int x4)]) dX2_hasNews_79 rfl (by rw [hv25]; rfl) (Nat.le_of_ble_eq_true rfl) rfl ?_
      refine ao_goto 8 dX2_hasNews_82 (by decide) ?_
      refine ao_loForget (lo' := [some (.ref (Γ.2.2.2 + r0)), some (.ref (Γ.2.2.2 + r1)), some (.ref (Γ.2.2.2 + r2)), some (.int v25), none]) (ao_fgS (ao_fgS (ao_fgS (ao_fgS (ao_fgN ao_fgZ))))) ?_
      exact ih.2.1 r0 r1 r2 v25 M _ h
set_option maxRecDepth 100000 in
set_option maxHeartbeats 4000000 in
theorem aX2_hasNews {Γ : ao_C} (d : Nat) (hd : 1 ≤ d) (n : Nat) (r0 : Nat) (r1 : Nat) (M : ao_M) (ρ : ao_H) {y : Int32 × ao_M} (h : gX2_hasNews n r0 r1 M ρ = some y) : ao_A Γ uX2_hasNews d 0 0 [.ref (Γ.2.2.2 + r0), .ref (Γ.2.2.2 + r1)] (M, ρ) (ao_PI ρ y) := by
  refine ao_of (by decide) (ao_cat1 (Nat.le_of_ble_eq_true rfl)) (Nat.le_of_ble_eq_true rfl) ?_
  show ao_W Γ uX2_hasNews (ao_rm d 0 0) (ao_Q Γ (ao_PI ρ y) 0 0) 0 0 0 [some (.ref (Γ.2.2.2 + r0)), some (.ref (Γ.2.2.2 + r1)), none, none, none] [] (M, ρ)
  exact (wX2_hasNews d hd n).1 r0 r1 M y h

abbrev uX2_outermostWrong : ao_Mi := (yX2_outermostWrong, cX2_outermostWrong, 5, (some .int), [])
def fX2_outermostWrong : Nat → Nat → Nat → Nat → Int32 → Nat → Int32 →  ao_M → ao_H → Option (Int32 × ao_M)
  | 0, _, _, _, _, _, _, _, _ => none
  | n + 1, pc, r0, r1, x2, r3, x4, M, ρ =>
    if pc = 0 then
      if ρ.2.1 r0 = 12 then
      if (M r0 5) = (1 : Int32) then
        (ρ.1 r0 0).bind fun j3 =>
        if ρ.2.1 j3 = 15 then
        if ρ.2.1 r1 = 17 then
        if (M j3 4) = (M r1 14) then
          some ((-1 : Int32), M)
        else
          fX2_outermostWrong n 24 r0 r1 0 0 0 M ρ
        else none
        else none
      else
        fX2_outermostWrong n 24 r0 r1 0 0 0 M ρ
      else none
    else if pc = 24 then
      fX2_outermostWrong n 26 r0 r1 (0 : Int32) 0 0 M ρ
    else if pc = 26 then
      if ρ.2.1 r1 = 17 then
      if (M r1 8) ≤ x2 then
        some ((-1 : Int32), M)
      else
        (gX7_level n r1 x2 M ρ).bind fun p9 =>
        fX2_outermostWrong n 43 r0 r1 x2 p9.1 (0 : Int32) p9.2 ρ
      else none
    else if pc = 43 then
      if ρ.2.1 r3 = 13 then
      if (M r3 3) ≤ x4 then
        fX2_outermostWrong n 78 r0 r1 x2 r3 x4 M ρ
      else
        if (26 : Int32) ≤ x4 then
          fX2_outermostWrong n 78 r0 r1 x2 r3 x4 M ρ
        else
          if ρ.2.1 r0 = 12 then
          (gX2_isWrong n r0 r1 r3 x4 M ρ).bind fun p14 =>
          if p14.1 = 0 then
            ao_let (x4 + (1 : Int32)) fun v16 =>
            fX2_outermostWrong n 43 r0 r1 x2 r3 v16 p14.2 ρ
          else
            some (x2, p14.2)
          else none
      else none
    else if pc = 78 then
      ao_let (x2 + (1 : Int32)) fun v17 =>
      fX2_outermostWrong n 26 r0 r1 v17 0 0 M ρ
    else none
def gX2_outermostWrong (n : Nat) (r0 : Nat) (r1 : Nat) (M : ao_M) (ρ : ao_H) : Option (Int32 × ao_M) := fX2_outermostWrong n 0 r0 r1 0 0 0 M ρ
set_option maxRecDepth 100000 in
set_option maxHeartbeats 4000000 in
theorem wX2_outermostWrong {Γ : ao_C} {ρ : ao_H} (d : Nat) (hd : 2 ≤ d) : ∀ n : Nat, (∀ (r0 : Nat) (r1 : Nat) (M : ao_M) (y : Int32 × ao_M), fX2_outermostWrong n 0 r0 r1 0 0 0 M ρ = some y → ao_W Γ uX2_outermostWrong (ao_rm d 0 0) (ao_Q Γ (ao_PI ρ y) 0 0) 0 0 0 [some (.ref (Γ.2.2.2 + r0)), some (.ref (Γ.2.2.2 + r1)), none, none, none] [] (M, ρ)) ∧ (∀ (r0 : Nat) (r1 : Nat) (M : ao_M) (y : Int32 × ao_M), fX2_outermostWrong n 24 r0 r1 0 0 0 M ρ = some y → ao_W Γ uX2_outermostWrong (ao_rm d 0 0) (ao_Q Γ (ao_PI ρ y) 0 0) 0 0 24 [some (.ref (Γ.2.2.2 + r0)), some (.ref (Γ.2.2.2 + r1)), none, none, none] [] (M, ρ)) ∧ (∀ (r0 : Nat) (r1 : Nat) (x2 : Int32) (M : ao_M) (y : Int32 × ao_M), fX2_outermostWrong n 26 r0 r1 x2 0 0 M ρ = some y → ao_W Γ uX2_outermostWrong (ao_rm d 0 0) (ao_Q Γ (ao_PI ρ y) 0 0) 0 0 26 [some (.ref (Γ.2.2.2 + r0)), some (.ref (Γ.2.2.2 + r1)), some (.int x2), none, none] [] (M, ρ)) ∧ (∀ (r0 : Nat) (r1 : Nat) (x2 : Int32) (r3 : Nat) (x4 : Int32) (M : ao_M) (y : Int32 × ao_M), fX2_outermostWrong n 43 r0 r1 x2 r3 x4 M ρ = some y → ao_W Γ uX2_outermostWrong (ao_rm d 0 0) (ao_Q Γ (ao_PI ρ y) 0 0) 0 0 43 [some (.ref (Γ.2.2.2 + r0)), some (.ref (Γ.2.2.2 + r1)), some (.int x2), some (.ref (Γ.2.2.2 + r3)), some (.int x4)] [] (M, ρ)) ∧ (∀ (r0 : Nat) (r1 : Nat) (x2 : Int32) (r3 : Nat) (x4 : Int32) (M : ao_M) (y : Int32 × ao_M), fX2_outermostWrong n 78 r0 r1 x2 r3 x4 M ρ = some y → ao_W Γ uX2_outermostWrong (ao_rm d 0 0) (ao_Q Γ (ao_PI ρ y) 0 0) 0 0 78 [some (.ref (Γ.2.2.2 + r0)), some (.ref (Γ.2.2.2 + r1)), some (.int x2), some (.ref (Γ.2.2.2 + r3)), some (.int x4)] [] (M, ρ)) := by
  intro n
  induction n with
  | zero => exact ⟨fun _ _ _ _ h => ao_no h, fun _ _ _ _ h => ao_no h, fun _ _ _ _ _ h => ao_no h, fun _ _ _ _ _ _ _ h => ao_no h, fun _ _ _ _ _ _ _ h => ao_no h⟩
  | succ n ih =>
    refine ⟨?_, ?_, ?_, ?_, ?_⟩
    · intro r0 r1 M y h
      replace h := ao_ifT h rfl
      refine ao_aload_n 0 dX2_outermostWrong_0 rfl rfl ?_
      obtain ⟨hk1, h⟩ := ao_some h
      refine an_getI r0 2 5 (q := (RX2, TX2, 7)) dX2_outermostWrong_1 rfl hk1 (Nat.le_of_ble_eq_true rfl) rfl lf_X2_41 ?_
      refine ao_iconst (v := 1) dX2_outermostWrong_4 (by decide) ?_
      refine ao_icmp_ne 24 dX2_outermostWrong_5 (by decide) (fun c2 => ?_) (fun c2 => ?_)
      · replace h := ao_ifF h c2
        exact ih.2.1 r0 r1 M _ h
      · replace h := ao_ifT h c2
        refine ao_aload_n 0 dX2_outermostWrong_8 rfl rfl ?_
        obtain ⟨j3, hj3, h⟩ := ao_bind h
        refine an_getR r0 2 0 (q := (RX2, TX2, 7)) dX2_outermostWrong_9 rfl hk1 (Nat.le_of_ble_eq_true rfl) rfl lf_X2_12 hj3 ?_
        obtain ⟨hk4, h⟩ := ao_some h
        refine an_getI j3 5 4 (q := (RX5, TX5, 11)) dX2_outermostWrong_12 rfl hk4 (Nat.le_of_ble_eq_true rfl) rfl lf_X2_61 ?_
        refine ao_aload_n 1 dX2_outermostWrong_15 rfl rfl ?_
        obtain ⟨hk5, h⟩ := ao_some h
        refine an_getI r1 7 14 (q := (RX7, TX7, 20)) dX2_outermostWrong_16 rfl hk5 (Nat.le_of_ble_eq_true rfl) rfl lf_X2_224 ?_
        refine ao_icmp_ne 24 dX2_outermostWrong_19 (by decide) (fun c6 => ?_) (fun c6 => ?_)
        · replace h := ao_ifF h c6
          exact ih.2.1 r0 r1 M _ h
        · replace h := ao_ifT h c6
          refine ao_iconst (v := (-1)) dX2_outermostWrong_22 (by decide) ?_
          cases h
          exact ao_ireturn dX2_outermostWrong_23 rfl rfl ⟨rfl, rfl⟩
    · intro r0 r1 M y h
      replace h := ao_ifF h (by decide)
      replace h := ao_ifT h rfl
      refine ao_iconst (v := 0) dX2_outermostWrong_24 (by decide) ?_
      refine ao_istore_n 2 (lo' := [some (.ref (Γ.2.2.2 + r0)), some (.ref (Γ.2.2.2 + r1)), some (.int (0 : Int32)), none, none]) dX2_outermostWrong_25 rfl (Nat.le_of_ble_eq_true rfl) rfl ?_
      exact ih.2.2.1 r0 r1 (0 : Int32) M _ h
    · intro r0 r1 x2 M y h
      replace h := ao_ifF h (by decide)
      replace h := ao_ifF h (by decide)
      replace h := ao_ifT h rfl
      refine ao_iload_n 2 dX2_outermostWrong_26 rfl rfl ?_
      refine ao_aload_n 1 dX2_outermostWrong_27 rfl rfl ?_
      obtain ⟨hk7, h⟩ := ao_some h
      refine an_getI r1 7 8 (q := (RX7, TX7, 20)) dX2_outermostWrong_28 rfl hk7 (Nat.le_of_ble_eq_true rfl) rfl lf_X2_165 ?_
      refine ao_icmp_ge 84 dX2_outermostWrong_31 (by decide) (fun c8 => ?_) (fun c8 => ?_)
      · replace h := ao_ifT h c8
        refine ao_iconst (v := (-1)) dX2_outermostWrong_84 (by decide) ?_
        cases h
        exact ao_ireturn dX2_outermostWrong_85 rfl rfl ⟨rfl, rfl⟩
      · replace h := ao_ifF h c8
        refine ao_aload_n 1 dX2_outermostWrong_34 rfl rfl ?_
        refine ao_iload_n 2 dX2_outermostWrong_35 rfl rfl ?_
        obtain ⟨p9, hp9, h⟩ := ao_bind h
        refine an_callVr r1 7 (q := (RX7, TX7, 20)) [.int x2] (aX7_level (d - 1) (by omega) _ r1 x2 M ρ hp9) dX2_outermostWrong_36 lc_X2_213 li_X7_level ls_X7_level rfl hk7 rfl rfl (Nat.le_of_ble_eq_true rfl) (ao_hR (by omega) (by decide)) ?_
        refine ao_astore_n 3 (lo' := [some (.ref (Γ.2.2.2 + r0)), some (.ref (Γ.2.2.2 + r1)), some (.int x2), some (.ref (Γ.2.2.2 + p9.1)), none]) dX2_outermostWrong_39 rfl (Nat.le_of_ble_eq_true rfl) rfl ?_
        refine ao_iconst (v := 0) dX2_outermostWrong_40 (by decide) ?_
        refine ao_istore 4 (lo' := [some (.ref (Γ.2.2.2 + r0)), some (.ref (Γ.2.2.2 + r1)), some (.int x2), some (.ref (Γ.2.2.2 + p9.1)), some (.int (0 : Int32))]) dX2_outermostWrong_41 (Nat.le_of_ble_eq_true rfl) rfl ?_
        exact ih.2.2.2.1 r0 r1 x2 p9.1 (0 : Int32) p9.2 _ h
    · intro r0 r1 x2 r3 x4 M y h
      replace h := ao_ifF h (by decide)
      replace h := ao_ifF h (by decide)
      replace h := ao_ifF h (by decide)
      replace h := ao_ifT h rfl
      refine ao_iload 4 dX2_outermostWrong_43 rfl ?_
      refine ao_aload_n 3 dX2_outermostWrong_45 rfl rfl ?_
      obtain ⟨hk10, h⟩ := ao_some h
      refine an_getI r3 3 3 (q := (RX3, TX3, 12)) dX2_outermostWrong_46 rfl hk10 (Nat.le_of_ble_eq_true rfl) rfl lf_X2_257 ?_
      refine ao_icmp_ge 78 dX2_outermostWrong_49 (by decide) (fun c11 => ?_) (fun c11 => ?_)
      · replace h := ao_ifT h c11
        exact ih.2.2.2.2 r0 r1 x2 r3 x4 M _ h
      · replace h := ao_ifF h c11
        refine ao_iload 4 dX2_outermostWrong_52 rfl ?_
        refine ao_bipush (v := 26) dX2_outermostWrong_54 (by decide) ?_
        refine ao_icmp_ge 78 dX2_outermostWrong_56 (by decide) (fun c12 => ?_) (fun c12 => ?_)
        · replace h := ao_ifT h c12
          exact ih.2.2.2.2 r0 r1 x2 r3 x4 M _ h
        · replace h := ao_ifF h c12
          refine ao_aload_n 0 dX2_outermostWrong_59 rfl rfl ?_
          refine ao_aload_n 1 dX2_outermostWrong_60 rfl rfl ?_
          refine ao_aload_n 3 dX2_outermostWrong_61 rfl rfl ?_
          refine ao_iload 4 dX2_outermostWrong_62 rfl ?_
          obtain ⟨hk13, h⟩ := ao_some h
          obtain ⟨p14, hp14, h⟩ := ao_bind h
          refine an_callVi r0 2 (q := (RX2, TX2, 7)) [.ref (Γ.2.2.2 + r1), .ref (Γ.2.2.2 + r3), .int x4] (aX2_isWrong (d - 1) (by omega) _ r0 r1 r3 x4 M ρ hp14) dX2_outermostWrong_64 lc_X2_260 li_X2_isWrong ls_X2_isWrong rfl hk13 rfl rfl (Nat.le_of_ble_eq_true rfl) (ao_hR (by omega) (by decide)) ?_
          refine ao_if_eq 72 dX2_outermostWrong_67 (by decide) (fun c15 => ?_) (fun c15 => ?_)
          · replace h := ao_ifT h c15
            obtain ⟨v16, hv16⟩ : ∃ z : Int32, z = x4 + (1 : Int32) := ⟨_, rfl⟩
            replace h := ao_letD h hv16
            refine ao_iinc 4 (v := v16) (lo' := [some (.ref (Γ.2.2.2 + r0)), some (.ref (Γ.2.2.2 + r1)), some (.int x2), some (.ref (Γ.2.2.2 + r3)), some (.int v16)]) dX2_outermostWrong_72 rfl (by rw [hv16]; rfl) (Nat.le_of_ble_eq_true rfl) rfl ?_
            refine ao_goto 43 dX2_outermostWrong_75 (by decide) ?_
            exact ih.2.2.2.1 r0 r1 x2 r3 v16 p14.2 _ h
          · replace h := ao_ifF h c15
            refine ao_iload_n 2 dX2_outermostWrong_70 rfl rfl ?_
            cases h
            exact ao_ireturn dX2_outermostWrong_71 rfl rfl ⟨rfl, rfl⟩
    · intro r0 r1 x2 r3 x4 M y h
      replace h := ao_ifF h (by decide)
      replace h := ao_ifF h (by decide)
      replace h := ao_ifF h (by decide)
      replace h := ao_ifF h (by decide)
      replace h := ao_ifT h rfl
      obtain ⟨v17, hv17⟩ : ∃ z : Int32, z = x2 + (1 : Int32) := ⟨_, rfl⟩
      replace h := ao_letD h hv17
      refine ao_iinc 2 (v := v17) (lo' := [some (.ref (Γ.2.2.2 + r0)), some (.ref (Γ.2.2.2 + r1)), some (.int v17), some (.ref (Γ.2.2.2 + r3)), some (.int x4)]) dX2_outermostWrong_78 rfl (by rw [hv17]; rfl) (Nat.le_of_ble_eq_true rfl) rfl ?_
      refine ao_goto 26 dX2_outermostWrong_81 (by decide) ?_
      refine ao_loForget (lo' := [some (.ref (Γ.2.2.2 + r0)), some (.ref (Γ.2.2.2 + r1)), some (.int v17), none, none]) (ao_fgS (ao_fgS (ao_fgS (ao_fgN (ao_fgN ao_fgZ))))) ?_
      exact ih.2.2.1 r0 r1 v17 M _ h
set_option maxRecDepth 100000 in
set_option maxHeartbeats 4000000 in
theorem aX2_outermostWrong {Γ : ao_C} (d : Nat) (hd : 2 ≤ d) (n : Nat) (r0 : Nat) (r1 : Nat) (M : ao_M) (ρ : ao_H) {y : Int32 × ao_M} (h : gX2_outermostWrong n r0 r1 M ρ = some y) : ao_A Γ uX2_outermostWrong d 0 0 [.ref (Γ.2.2.2 + r0), .ref (Γ.2.2.2 + r1)] (M, ρ) (ao_PI ρ y) := by
  refine ao_of (by decide) (ao_cat1 (Nat.le_of_ble_eq_true rfl)) (Nat.le_of_ble_eq_true rfl) ?_
  show ao_W Γ uX2_outermostWrong (ao_rm d 0 0) (ao_Q Γ (ao_PI ρ y) 0 0) 0 0 0 [some (.ref (Γ.2.2.2 + r0)), some (.ref (Γ.2.2.2 + r1)), none, none, none] [] (M, ρ)
  exact (wX2_outermostWrong d hd n).1 r0 r1 M y h

abbrev uX2_writeRecord : ao_Mi := (yX2_writeRecord, cX2_writeRecord, 4, none, [])
def fX2_writeRecord : Nat → Nat → Nat → Nat → Nat → Int32 →  ao_M → ao_H → Option (ao_M)
  | 0, _, _, _, _, _, _, _ => none
  | n + 1, pc, r0, r1, r2, x3, M, ρ =>
    if pc = 0 then
      if ρ.2.1 r0 = 12 then
      (ρ.1 r0 3).bind fun j2 =>
      if ρ.2.1 r1 = 17 then
      if ρ.2.1 j2 = 16 then
      (gX6_begin n j2 (M r1 0) (M r1 16) (M r0 6) M ρ).bind fun p5 =>
      fX2_writeRecord n 21 r0 r1 r2 (0 : Int32) p5 ρ
      else none
      else none
      else none
    else if pc = 21 then
      if ρ.2.1 r2 = 13 then
      if (M r2 3) ≤ x3 then
        fX2_writeRecord n 60 r0 r1 r2 x3 M ρ
      else
        if (26 : Int32) ≤ x3 then
          fX2_writeRecord n 60 r0 r1 r2 x3 M ρ
        else
          if ρ.2.1 r0 = 12 then
          (ρ.1 r0 3).bind fun j10 =>
          (ρ.1 r2 0).bind fun j11 =>
          if ρ.2.1 j11 = 0 then
          if ¬ (x3 < 0 ∨ ρ.2.2.1 j11 ≤ x3.toNatClampNeg) then
          (ρ.1 r2 1).bind fun j14 =>
          if ρ.2.1 j14 = 0 then
          if ¬ (x3 < 0 ∨ ρ.2.2.1 j14 ≤ x3.toNatClampNeg) then
          if ρ.2.1 j10 = 16 then
          (gX6_addRead n j10 (M j11 x3.toNatClampNeg) (M j14 x3.toNatClampNeg) M ρ).bind fun p18 =>
          ao_let (x3 + (1 : Int32)) fun v19 =>
          fX2_writeRecord n 21 r0 r1 r2 v19 p18 ρ
          else none
          else none
          else none
          else none
          else none
          else none
      else none
    else if pc = 60 then
      fX2_writeRecord n 62 r0 r1 r2 (0 : Int32) M ρ
    else if pc = 62 then
      if (26 : Int32) ≤ x3 then
        some M
      else
        if ρ.2.1 r2 = 13 then
        (gX3_wrote r2 x3 M ρ).bind fun p22 =>
        if p22.1 = 0 then
          fX2_writeRecord n 93 r0 r1 r2 x3 p22.2 ρ
        else
          if ρ.2.1 r0 = 12 then
          (ρ.1 r0 3).bind fun j25 =>
          (ρ.1 r0 0).bind fun j26 =>
          if ρ.2.1 j26 = 15 then
          (ρ.1 j26 0).bind fun j28 =>
          if ρ.2.1 j28 = 0 then
          if ¬ (x3 < 0 ∨ ρ.2.2.1 j28 ≤ x3.toNatClampNeg) then
          if ρ.2.1 j25 = 16 then
          (gX6_addWrite n j25 x3 (p22.2 j28 x3.toNatClampNeg) p22.2 ρ).bind fun p32 =>
          fX2_writeRecord n 93 r0 r1 r2 x3 p32 ρ
          else none
          else none
          else none
          else none
          else none
        else none
    else if pc = 93 then
      ao_let (x3 + (1 : Int32)) fun v33 =>
      fX2_writeRecord n 62 r0 r1 r2 v33 M ρ
    else none
def gX2_writeRecord (n : Nat) (r0 : Nat) (r1 : Nat) (r2 : Nat) (M : ao_M) (ρ : ao_H) : Option (ao_M) := fX2_writeRecord n 0 r0 r1 r2 0 M ρ
set_option maxRecDepth 100000 in
set_option maxHeartbeats 4000000 in
theorem wX2_writeRecord {Γ : ao_C} {ρ : ao_H} (d : Nat) (hd : 2 ≤ d) : ∀ n : Nat, (∀ (r0 : Nat) (r1 : Nat) (r2 : Nat) (M : ao_M) (y : ao_M), fX2_writeRecord n 0 r0 r1 r2 0 M ρ = some y → ao_W Γ uX2_writeRecord (ao_rm d 0 0) (ao_Q Γ (ao_PV ρ y) 0 0) 0 0 0 [some (.ref (Γ.2.2.2 + r0)), some (.ref (Γ.2.2.2 + r1)), some (.ref (Γ.2.2.2 + r2)), none] [] (M, ρ)) ∧ (∀ (r0 : Nat) (r1 : Nat) (r2 : Nat) (x3 : Int32) (M : ao_M) (y : ao_M), fX2_writeRecord n 21 r0 r1 r2 x3 M ρ = some y → ao_W Γ uX2_writeRecord (ao_rm d 0 0) (ao_Q Γ (ao_PV ρ y) 0 0) 0 0 21 [some (.ref (Γ.2.2.2 + r0)), some (.ref (Γ.2.2.2 + r1)), some (.ref (Γ.2.2.2 + r2)), some (.int x3)] [] (M, ρ)) ∧ (∀ (r0 : Nat) (r1 : Nat) (r2 : Nat) (x3 : Int32) (M : ao_M) (y : ao_M), fX2_writeRecord n 60 r0 r1 r2 x3 M ρ = some y → ao_W Γ uX2_writeRecord (ao_rm d 0 0) (ao_Q Γ (ao_PV ρ y) 0 0) 0 0 60 [some (.ref (Γ.2.2.2 + r0)), some (.ref (Γ.2.2.2 + r1)), some (.ref (Γ.2.2.2 + r2)), some (.int x3)] [] (M, ρ)) ∧ (∀ (r0 : Nat) (r1 : Nat) (r2 : Nat) (x3 : Int32) (M : ao_M) (y : ao_M), fX2_writeRecord n 62 r0 r1 r2 x3 M ρ = some y → ao_W Γ uX2_writeRecord (ao_rm d 0 0) (ao_Q Γ (ao_PV ρ y) 0 0) 0 0 62 [some (.ref (Γ.2.2.2 + r0)), some (.ref (Γ.2.2.2 + r1)), some (.ref (Γ.2.2.2 + r2)), some (.int x3)] [] (M, ρ)) ∧ (∀ (r0 : Nat) (r1 : Nat) (r2 : Nat) (x3 : Int32) (M : ao_M) (y : ao_M), fX2_writeRecord n 93 r0 r1 r2 x3 M ρ = some y → ao_W Γ uX2_writeRecord (ao_rm d 0 0) (ao_Q Γ (ao_PV ρ y) 0 0) 0 0 93 [some (.ref (Γ.2.2.2 + r0)), some (.ref (Γ.2.2.2 + r1)), some (.ref (Γ.2.2.2 + r2)), some (.int x3)] [] (M, ρ)) := by
  intro n
  induction n with
  | zero => exact ⟨fun _ _ _ _ _ h => ao_no h, fun _ _ _ _ _ _ h => ao_no h, fun _ _ _ _ _ _ h => ao_no h, fun _ _ _ _ _ _ h => ao_no h, fun _ _ _ _ _ _ h => ao_no h⟩
  | succ n ih =>
    refine ⟨?_, ?_, ?_, ?_, ?_⟩
    · intro r0 r1 r2 M y h
      replace h := ao_ifT h rfl
      refine ao_aload_n 0 dX2_writeRecord_0 rfl rfl ?_
      obtain ⟨hk1, h⟩ := ao_some h
      obtain ⟨j2, hj2, h⟩ := ao_bind h
      refine an_getR r0 2 3 (q := (RX2, TX2, 7)) dX2_writeRecord_1 rfl hk1 (Nat.le_of_ble_eq_true rfl) rfl lf_X2_28 hj2 ?_
      refine ao_aload_n 1 dX2_writeRecord_4 rfl rfl ?_
      obtain ⟨hk3, h⟩ := ao_some h
      refine an_getI r1 7 0 (q := (RX7, TX7, 20)) dX2_writeRecord_5 rfl hk3 (Nat.le_of_ble_eq_true rfl) rfl lf_X2_171 ?_
      refine ao_aload_n 1 dX2_writeRecord_8 rfl rfl ?_
      refine an_getI r1 7 16 (q := (RX7, TX7, 20)) dX2_writeRecord_9 rfl hk3 (Nat.le_of_ble_eq_true rfl) rfl lf_X2_286 ?_
      refine ao_aload_n 0 dX2_writeRecord_12 rfl rfl ?_
      refine an_getI r0 2 6 (q := (RX2, TX2, 7)) dX2_writeRecord_13 rfl hk1 (Nat.le_of_ble_eq_true rfl) rfl lf_X2_77 ?_
      obtain ⟨hk4, h⟩ := ao_some h
      obtain ⟨p5, hp5, h⟩ := ao_bind h
      refine an_callVv j2 6 (q := (RX6, TX6, 11)) [.int (M r1 0), .int (M r1 16), .int (M r0 6)] (aX6_begin (d - 1) (by omega) _ j2 (M r1 0) (M r1 16) (M r0 6) M ρ hp5) dX2_writeRecord_16 lc_X2_184 li_X6_begin ls_X6_begin rfl hk4 rfl rfl (Nat.le_of_ble_eq_true rfl) (ao_hR (by omega) (by decide)) ?_
      refine ao_iconst (v := 0) dX2_writeRecord_19 (by decide) ?_
      refine ao_istore_n 3 (lo' := [some (.ref (Γ.2.2.2 + r0)), some (.ref (Γ.2.2.2 + r1)), some (.ref (Γ.2.2.2 + r2)), some (.int (0 : Int32))]) dX2_writeRecord_20 rfl (Nat.le_of_ble_eq_true rfl) rfl ?_
      exact ih.2.1 r0 r1 r2 (0 : Int32) p5 _ h
    · intro r0 r1 r2 x3 M y h
      replace h := ao_ifF h (by decide)
      replace h := ao_ifT h rfl
      refine ao_iload_n 3 dX2_writeRecord_21 rfl rfl ?_
      refine ao_aload_n 2 dX2_writeRecord_22 rfl rfl ?_
      obtain ⟨hk6, h⟩ := ao_some h
      refine an_getI r2 3 3 (q := (RX3, TX3, 12)) dX2_writeRecord_23 rfl hk6 (Nat.le_of_ble_eq_true rfl) rfl lf_X2_257 ?_
      refine ao_icmp_ge 60 dX2_writeRecord_26 (by decide) (fun c7 => ?_) (fun c7 => ?_)
      · replace h := ao_ifT h c7
        exact ih.2.2.1 r0 r1 r2 x3 M _ h
      · replace h := ao_ifF h c7
        refine ao_iload_n 3 dX2_writeRecord_29 rfl rfl ?_
        refine ao_bipush (v := 26) dX2_writeRecord_30 (by decide) ?_
        refine ao_icmp_ge 60 dX2_writeRecord_32 (by decide) (fun c8 => ?_) (fun c8 => ?_)
        · replace h := ao_ifT h c8
          exact ih.2.2.1 r0 r1 r2 x3 M _ h
        · replace h := ao_ifF h c8
          refine ao_aload_n 0 dX2_writeRecord_35 rfl rfl ?_
          obtain ⟨hk9, h⟩ := ao_some h
          obtain ⟨j10, hj10, h⟩ := ao_bind h
          refine an_getR r0 2 3 (q := (RX2, TX2, 7)) dX2_writeRecord_36 rfl hk9 (Nat.le_of_ble_eq_true rfl) rfl lf_X2_28 hj10 ?_
          refine ao_aload_n 2 dX2_writeRecord_39 rfl rfl ?_
          obtain ⟨j11, hj11, h⟩ := ao_bind h
          refine an_getR r2 3 0 (q := (RX3, TX3, 12)) dX2_writeRecord_40 rfl hk6 (Nat.le_of_ble_eq_true rfl) rfl lf_X2_264 hj11 ?_
          refine ao_iload_n 3 dX2_writeRecord_43 rfl rfl ?_
          obtain ⟨hk12, h⟩ := ao_some h
          obtain ⟨hb13, h⟩ := ao_some h
          refine an_iaload j11 dX2_writeRecord_44 hk12 hb13 ?_
          refine ao_aload_n 2 dX2_writeRecord_45 rfl rfl ?_
          obtain ⟨j14, hj14, h⟩ := ao_bind h
          refine an_getR r2 3 1 (q := (RX3, TX3, 12)) dX2_writeRecord_46 rfl hk6 (Nat.le_of_ble_eq_true rfl) rfl lf_X2_267 hj14 ?_
          refine ao_iload_n 3 dX2_writeRecord_49 rfl rfl ?_
          obtain ⟨hk15, h⟩ := ao_some h
          obtain ⟨hb16, h⟩ := ao_some h
          refine an_iaload j14 dX2_writeRecord_50 hk15 hb16 ?_
          obtain ⟨hk17, h⟩ := ao_some h
          obtain ⟨p18, hp18, h⟩ := ao_bind h
          refine an_callVv j10 6 (q := (RX6, TX6, 11)) [.int (M j11 x3.toNatClampNeg), .int (M j14 x3.toNatClampNeg)] (aX6_addRead (d - 1) (by omega) _ j10 (M j11 x3.toNatClampNeg) (M j14 x3.toNatClampNeg) M ρ hp18) dX2_writeRecord_51 lc_X2_191 li_X6_addRead ls_X6_addRead rfl hk17 rfl rfl (Nat.le_of_ble_eq_true rfl) (ao_hR (by omega) (by decide)) ?_
          obtain ⟨v19, hv19⟩ : ∃ z : Int32, z = x3 + (1 : Int32) := ⟨_, rfl⟩
          replace h := ao_letD h hv19
          refine ao_iinc 3 (v := v19) (lo' := [some (.ref (Γ.2.2.2 + r0)), some (.ref (Γ.2.2.2 + r1)), some (.ref (Γ.2.2.2 + r2)), some (.int v19)]) dX2_writeRecord_54 rfl (by rw [hv19]; rfl) (Nat.le_of_ble_eq_true rfl) rfl ?_
          refine ao_goto 21 dX2_writeRecord_57 (by decide) ?_
          exact ih.2.1 r0 r1 r2 v19 p18 _ h
    · intro r0 r1 r2 x3 M y h
      replace h := ao_ifF h (by decide)
      replace h := ao_ifF h (by decide)
      replace h := ao_ifT h rfl
      refine ao_iconst (v := 0) dX2_writeRecord_60 (by decide) ?_
      refine ao_istore_n 3 (lo' := [some (.ref (Γ.2.2.2 + r0)), some (.ref (Γ.2.2.2 + r1)), some (.ref (Γ.2.2.2 + r2)), some (.int (0 : Int32))]) dX2_writeRecord_61 rfl (Nat.le_of_ble_eq_true rfl) rfl ?_
      exact ih.2.2.2.1 r0 r1 r2 (0 : Int32) M _ h
    · intro r0 r1 r2 x3 M y h
      replace h := ao_ifF h (by decide)
      replace h := ao_ifF h (by decide)
      replace h := ao_ifF h (by decide)
      replace h := ao_ifT h rfl
      refine ao_iload_n 3 dX2_writeRecord_62 rfl rfl ?_
      refine ao_bipush (v := 26) dX2_writeRecord_63 (by decide) ?_
      refine ao_icmp_ge 99 dX2_writeRecord_65 (by decide) (fun c20 => ?_) (fun c20 => ?_)
      · replace h := ao_ifT h c20
        cases h
        exact ao_return dX2_writeRecord_99 rfl ⟨rfl, rfl⟩
      · replace h := ao_ifF h c20
        refine ao_aload_n 2 dX2_writeRecord_68 rfl rfl ?_
        refine ao_iload_n 3 dX2_writeRecord_69 rfl rfl ?_
        obtain ⟨hk21, h⟩ := ao_some h
        obtain ⟨p22, hp22, h⟩ := ao_bind h
        refine an_callVi r2 3 (q := (RX3, TX3, 12)) [.int x3] (aX3_wrote (d - 1) (by omega) r2 x3 M ρ hp22) dX2_writeRecord_70 lc_X2_217 li_X3_wrote ls_X3_wrote rfl hk21 rfl rfl (Nat.le_of_ble_eq_true rfl) (ao_hR (by omega) (by decide)) ?_
        refine ao_if_eq 93 dX2_writeRecord_73 (by decide) (fun c23 => ?_) (fun c23 => ?_)
        · replace h := ao_ifT h c23
          exact ih.2.2.2.2 r0 r1 r2 x3 p22.2 _ h
        · replace h := ao_ifF h c23
          refine ao_aload_n 0 dX2_writeRecord_76 rfl rfl ?_
          obtain ⟨hk24, h⟩ := ao_some h
          obtain ⟨j25, hj25, h⟩ := ao_bind h
          refine an_getR r0 2 3 (q := (RX2, TX2, 7)) dX2_writeRecord_77 rfl hk24 (Nat.le_of_ble_eq_true rfl) rfl lf_X2_28 hj25 ?_
          refine ao_iload_n 3 dX2_writeRecord_80 rfl rfl ?_
          refine ao_aload_n 0 dX2_writeRecord_81 rfl rfl ?_
          obtain ⟨j26, hj26, h⟩ := ao_bind h
          refine an_getR r0 2 0 (q := (RX2, TX2, 7)) dX2_writeRecord_82 rfl hk24 (Nat.le_of_ble_eq_true rfl) rfl lf_X2_12 hj26 ?_
          obtain ⟨hk27, h⟩ := ao_some h
          obtain ⟨j28, hj28, h⟩ := ao_bind h
          refine an_getR j26 5 0 (q := (RX5, TX5, 11)) dX2_writeRecord_85 rfl hk27 (Nat.le_of_ble_eq_true rfl) rfl lf_X2_188 hj28 ?_
          refine ao_iload_n 3 dX2_writeRecord_88 rfl rfl ?_
          obtain ⟨hk29, h⟩ := ao_some h
          obtain ⟨hb30, h⟩ := ao_some h
          refine an_iaload j28 dX2_writeRecord_89 hk29 hb30 ?_
          obtain ⟨hk31, h⟩ := ao_some h
          obtain ⟨p32, hp32, h⟩ := ao_bind h
          refine an_callVv j25 6 (q := (RX6, TX6, 11)) [.int x3, .int (p22.2 j28 x3.toNatClampNeg)] (aX6_addWrite (d - 1) (by omega) _ j25 x3 (p22.2 j28 x3.toNatClampNeg) p22.2 ρ hp32) dX2_writeRecord_90 lc_X2_241 li_X6_addWrite ls_X6_addWrite rfl hk31 rfl rfl (Nat.le_of_ble_eq_true rfl) (ao_hR (by omega) (by decide)) ?_
          exact ih.2.2.2.2 r0 r1 r2 x3 p32 _ h
    · intro r0 r1 r2 x3 M y h
      replace h := ao_ifF h (by decide)
      replace h := ao_ifF h (by decide)
      replace h := ao_ifF h (by decide)
      replace h := ao_ifF h (by decide)
      replace h := ao_ifT h rfl
      obtain ⟨v33, hv33⟩ : ∃ z : Int32, z = x3 + (1 : Int32) := ⟨_, rfl⟩
      replace h := ao_letD h hv33
      refine ao_iinc 3 (v := v33) (lo' := [some (.ref (Γ.2.2.2 + r0)), some (.ref (Γ.2.2.2 + r1)), some (.ref (Γ.2.2.2 + r2)), some (.int v33)]) dX2_writeRecord_93 rfl (by rw [hv33]; rfl) (Nat.le_of_ble_eq_true rfl) rfl ?_
      refine ao_goto 62 dX2_writeRecord_96 (by decide) ?_
      exact ih.2.2.2.1 r0 r1 r2 v33 M _ h
set_option maxRecDepth 100000 in
set_option maxHeartbeats 4000000 in
theorem aX2_writeRecord {Γ : ao_C} (d : Nat) (hd : 2 ≤ d) (n : Nat) (r0 : Nat) (r1 : Nat) (r2 : Nat) (M : ao_M) (ρ : ao_H) {y : ao_M} (h : gX2_writeRecord n r0 r1 r2 M ρ = some y) : ao_A Γ uX2_writeRecord d 0 0 [.ref (Γ.2.2.2 + r0), .ref (Γ.2.2.2 + r1), .ref (Γ.2.2.2 + r2)] (M, ρ) (ao_PV ρ y) := by
  refine ao_of (by decide) (ao_cat1 (Nat.le_of_ble_eq_true rfl)) (Nat.le_of_ble_eq_true rfl) ?_
  show ao_W Γ uX2_writeRecord (ao_rm d 0 0) (ao_Q Γ (ao_PV ρ y) 0 0) 0 0 0 [some (.ref (Γ.2.2.2 + r0)), some (.ref (Γ.2.2.2 + r1)), some (.ref (Γ.2.2.2 + r2)), none] [] (M, ρ)
  exact (wX2_writeRecord d hd n).1 r0 r1 r2 M y h
