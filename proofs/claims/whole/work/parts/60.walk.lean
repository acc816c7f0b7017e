abbrev uX5_release : ao_Mi := (yX5_release, cX5_release, 4, none, [])
def fX5_release : Nat → Nat → Nat → Int32 → Int32 → Int32 →  ao_M → ao_H → Option (ao_S)
  | 0, _, _, _, _, _, _, _ => none
  | n + 1, pc, r0, x1, x2, x3, M, ρ =>
    if pc = 0 then
      fX5_release n 4 r0 x1 (0 : Int32) (0 : Int32) M ρ
    else if pc = 4 then
      if (26 : Int32) ≤ x3 then
        some (M, ρ)
      else
        if ρ.2.1 r0 = 15 then
        (ρ.1 r0 2).bind fun j3 =>
        if ρ.2.1 j3 = 0 then
        if ¬ (x3 < 0 ∨ ρ.2.2.1 j3 ≤ x3.toNatClampNeg) then
        if (M j3 x3.toNatClampNeg) = x1 then
          if x2 = 0 then
            ao_let (ao_u M r0 4 ((M r0 4) + (1 : Int32))) fun M8 =>
            fX5_release n 36 r0 x1 (1 : Int32) x3 M8 ρ
          else
            fX5_release n 36 r0 x1 x2 x3 M ρ
        else
          fX5_release n 54 r0 x1 x2 x3 M ρ
        else none
        else none
        else none
    else if pc = 36 then
      if ρ.2.1 r0 = 15 then
      (ρ.1 r0 2).bind fun j10 =>
      if ρ.2.1 j10 = 0 then
      if ¬ (x3 < 0 ∨ ρ.2.2.1 j10 ≤ x3.toNatClampNeg) then
      ao_let (ao_u M j10 x3.toNatClampNeg (-1 : Int32)) fun M13 =>
      (ρ.1 r0 0).bind fun j14 =>
      if ρ.2.1 j14 = 0 then
      if ¬ (x3 < 0 ∨ ρ.2.2.1 j14 ≤ x3.toNatClampNeg) then
      (gX5_change n r0 x3 (M13 j14 x3.toNatClampNeg) M13 ρ).bind fun p17 =>
      fX5_release n 54 r0 x1 x2 x3 p17.1 p17.2
      else none
      else none
      else none
      else none
      else none
    else if pc = 54 then
      ao_let (x3 + (1 : Int32)) fun v18 =>
      fX5_release n 4 r0 x1 x2 v18 M ρ
    else none
def gX5_release (n : Nat) (r0 : Nat) (x1 : Int32) (M : ao_M) (ρ : ao_H) : Option (ao_S) := fX5_release n 0 r0 x1 0 0 M ρ
set_option maxRecDepth 100000 in
set_option maxHeartbeats 4000000 in
theorem mX5_release : ∀ n : Nat, (∀ (r0 : Nat) (x1 : Int32) (M : ao_M) (ρ : ao_H) (y : ao_S), fX5_release n 0 r0 x1 0 0 M ρ = some y → ao_le ρ y.2) ∧ (∀ (r0 : Nat) (x1 : Int32) (x2 : Int32) (x3 : Int32) (M : ao_M) (ρ : ao_H) (y : ao_S), fX5_release n 4 r0 x1 x2 x3 M ρ = some y → ao_le ρ y.2) ∧ (∀ (r0 : Nat) (x1 : Int32) (x2 : Int32) (x3 : Int32) (M : ao_M) (ρ : ao_H) (y : ao_S), fX5_release n 36 r0 x1 x2 x3 M ρ = some y → ao_le ρ y.2) ∧ (∀ (r0 : Nat) (x1 : Int32) (x2 : Int32) (x3 : Int32) (M : ao_M) (ρ : ao_H) (y : ao_S), fX5_release n 54 r0 x1 x2 x3 M ρ = some y → ao_le ρ y.2) := by
  intro n
  induction n with
  | zero => exact ⟨fun _ _ _ _ _ h => ao_no h, fun _ _ _ _ _ _ _ h => ao_no h, fun _ _ _ _ _ _ _ h => ao_no h, fun _ _ _ _ _ _ _ h => ao_no h⟩
  | succ n ih =>
    refine ⟨?_, ?_, ?_, ?_⟩
    · intro r0 x1 M ρ y h
      replace h := ao_ifT h rfl
      exact ih.2.1 r0 x1 (0 : Int32) (0 : Int32) M ρ _ h
    · intro r0 x1 x2 x3 M ρ y h
      replace h := ao_ifF h (by decide)
      replace h := ao_ifT h rfl
      rcases ao_ifC h with h | h
      · cases h
        exact ao_le_rf _
      · obtain ⟨-, h⟩ := ao_some h
        obtain ⟨j3, hj3, h⟩ := ao_bind h
        obtain ⟨-, h⟩ := ao_some h
        obtain ⟨-, h⟩ := ao_some h
        rcases ao_ifC h with h | h
        · rcases ao_ifC h with h | h
          · replace h := ao_letD h rfl
            generalize (ao_u M r0 4 ((M r0 4) + (1 : Int32))) = M8 at h
            exact ih.2.2.1 r0 x1 (1 : Int32) x3 M8 ρ _ h
          · exact ih.2.2.1 r0 x1 x2 x3 M ρ _ h
        · exact ih.2.2.2 r0 x1 x2 x3 M ρ _ h
    · intro r0 x1 x2 x3 M ρ y h
      replace h := ao_ifF h (by decide)
      replace h := ao_ifF h (by decide)
      replace h := ao_ifT h rfl
      obtain ⟨-, h⟩ := ao_some h
      obtain ⟨j10, hj10, h⟩ := ao_bind h
      obtain ⟨-, h⟩ := ao_some h
      obtain ⟨-, h⟩ := ao_some h
      replace h := ao_letD h rfl
      generalize (ao_u M j10 x3.toNatClampNeg (-1 : Int32)) = M13 at h
      obtain ⟨j14, hj14, h⟩ := ao_bind h
      obtain ⟨-, h⟩ := ao_some h
      obtain ⟨-, h⟩ := ao_some h
      obtain ⟨p17, hp17, h⟩ := ao_bind h
      exact ao_le_tr (me_X5_change n r0 x3 (M13 j14 x3.toNatClampNeg) M13 ρ hp17) (ih.2.2.2 r0 x1 x2 x3 p17.1 p17.2 _ h)
    · intro r0 x1 x2 x3 M ρ y h
      replace h := ao_ifF h (by decide)
      replace h := ao_ifF h (by decide)
      replace h := ao_ifF h (by decide)
      replace h := ao_ifT h rfl
      replace h := ao_letD h rfl
      generalize (x3 + (1 : Int32)) = v18 at h
      exact ih.2.1 r0 x1 x2 v18 M ρ _ h
set_option maxRecDepth 100000 in
set_option maxHeartbeats 4000000 in
theorem wX5_release {Γ : ao_C} (d : Nat) (hd : 3 ≤ d) (MC MS : Nat) : ∀ n : Nat, (∀ (r0 : Nat) (x1 : Int32) (M : ao_M) (ρ : ao_H) (y : ao_S), fX5_release n 0 r0 x1 0 0 M ρ = some y → ao_W Γ uX5_release (ao_rm d MC MS) (ao_Q Γ (ao_QV y) MC MS) (ao_dc ρ y.2) (ao_ds ρ y.2) 0 [some (.ref (Γ.2.2.2 + r0)), some (.int x1), none, none] [] (M, ρ)) ∧ (∀ (r0 : Nat) (x1 : Int32) (x2 : Int32) (x3 : Int32) (M : ao_M) (ρ : ao_H) (y : ao_S), fX5_release n 4 r0 x1 x2 x3 M ρ = some y → ao_W Γ uX5_release (ao_rm d MC MS) (ao_Q Γ (ao_QV y) MC MS) (ao_dc ρ y.2) (ao_ds ρ y.2) 4 [some (.ref (Γ.2.2.2 + r0)), some (.int x1), some (.int x2), some (.int x3)] [] (M, ρ)) ∧ (∀ (r0 : Nat) (x1 : Int32) (x2 : Int32) (x3 : Int32) (M : ao_M) (ρ : ao_H) (y : ao_S), fX5_release n 36 r0 x1 x2 x3 M ρ = some y → ao_W Γ uX5_release (ao_rm d MC MS) (ao_Q Γ (ao_QV y) MC MS) (ao_dc ρ y.2) (ao_ds ρ y.2) 36 [some (.ref (Γ.2.2.2 + r0)), some (.int x1), some (.int x2), some (.int x3)] [] (M, ρ)) ∧ (∀ (r0 : Nat) (x1 : Int32) (x2 : Int32) (x3 : Int32) (M : ao_M) (ρ : ao_H) (y : ao_S), fX5_release n 54 r0 x1 x2 x3 M ρ = some y → ao_W Γ uX5_release (ao_rm d MC MS) (ao_Q Γ (ao_QV y) MC MS) (ao_dc ρ y.2) (ao_ds ρ y.2) 54 [some (.ref (Γ.2.2.2 + r0)), some (.int x1), some (.int x2), some (.int x3)] [] (M, ρ)) := by
  intro n
  induction n with
  | zero => exact ⟨fun _ _ _ _ _ h => ao_no h, fun _ _ _ _ _ _ _ h => ao_no h, fun _ _ _ _ _ _ _ h => ao_no h, fun _ _ _ _ _ _ _ h => ao_no h⟩
  | succ n ih =>
    refine ⟨?_, ?_, ?_, ?_⟩
    · intro r0 x1 M ρ y h
      replace h := ao_ifT h rfl
      refine ao_iconst (v := 0) dX5_release_0 (by decide) ?_
      refine ao_istore_n 2 (lo' := [some (.ref (Γ.2.2.2 + r0)), some (.int x1), some (.int (0 : Int32)), none]) dX5_release_1 rfl (Nat.le_of_ble_eq_true rfl) rfl ?_
      refine ao_iconst (v := 0) dX5_release_2 (by decide) ?_
      refine ao_istore_n 3 (lo' := [some (.ref (Γ.2.2.2 + r0)), some (.int x1), some (.int (0 : Int32)), some (.int (0 : Int32))]) dX5_release_3 rfl (Nat.le_of_ble_eq_true rfl) rfl ?_
      exact ih.2.1 r0 x1 (0 : Int32) (0 : Int32) M ρ _ h
    · intro r0 x1 x2 x3 M ρ y h
      replace h := ao_ifF h (by decide)
      replace h := ao_ifT h rfl
      refine ao_iload_n 3 dX5_release_4 rfl rfl ?_
      refine ao_bipush (v := 26) dX5_release_5 (by decide) ?_
      refine ao_icmp_ge 60 dX5_release_7 (by decide) (fun c1 => ?_) (fun c1 => ?_)
      · replace h := ao_ifT h c1
        cases h
        exact ao_return dX5_release_60 rfl ⟨rfl, rfl⟩
      · replace h := ao_ifF h c1
        refine ao_aload_n 0 dX5_release_10 rfl rfl ?_
        obtain ⟨hk2, h⟩ := ao_some h
        obtain ⟨j3, hj3, h⟩ := ao_bind h
        refine an_getR r0 5 2 (q := (RX5, TX5, 11)) dX5_release_11 rfl hk2 (Nat.le_of_ble_eq_true rfl) rfl lf_X5_18 hj3 ?_
        refine ao_iload_n 3 dX5_release_14 rfl rfl ?_
        obtain ⟨hk4, h⟩ := ao_some h
        obtain ⟨hb5, h⟩ := ao_some h
        refine an_iaload j3 dX5_release_15 hk4 hb5 ?_
        refine ao_iload_n 1 dX5_release_16 rfl rfl ?_
        refine ao_icmp_ne 54 dX5_release_17 (by decide) (fun c6 => ?_) (fun c6 => ?_)
        · replace h := ao_ifF h c6
          exact ih.2.2.2 r0 x1 x2 x3 M ρ _ h
        · replace h := ao_ifT h c6
          refine ao_iload_n 2 dX5_release_20 rfl rfl ?_
          refine ao_if_ne 36 dX5_release_21 (by decide) (fun c7 => ?_) (fun c7 => ?_)
          · replace h := ao_ifF h c7
            exact ih.2.2.1 r0 x1 x2 x3 M ρ _ h
          · replace h := ao_ifT h c7
            refine ao_aload_n 0 dX5_release_24 rfl rfl ?_
            refine ao_dup dX5_release_25 rfl ?_
            refine an_getI r0 5 4 (q := (RX5, TX5, 11)) dX5_release_26 rfl hk2 (Nat.le_of_ble_eq_true rfl) rfl lf_X5_46 ?_
            refine ao_iconst (v := 1) dX5_release_29 (by decide) ?_
            refine ao_iadd dX5_release_30 ?_
            refine an_putI r0 5 4 (q := (RX5, TX5, 11)) dX5_release_31 rfl hk2 (Nat.le_of_ble_eq_true rfl) lf_X5_46 rfl rfl rfl rfl (fun M8 hM8 => ?_)
            replace h := ao_letD h hM8
            refine ao_iconst (v := 1) dX5_release_34 (by decide) ?_
            refine ao_istore_n 2 (lo' := [some (.ref (Γ.2.2.2 + r0)), some (.int x1), some (.int (1 : Int32)), some (.int x3)]) dX5_release_35 rfl (Nat.le_of_ble_eq_true rfl) rfl ?_
            exact ih.2.2.1 r0 x1 (1 : Int32) x3 M8 ρ _ h
    · intro r0 x1 x2 x3 M ρ y h
      replace h := ao_ifF h (by decide)
      replace h := ao_ifF h (by decide)
      replace h := ao_ifT h rfl
      refine ao_aload_n 0 dX5_release_36 rfl rfl ?_
      obtain ⟨hk9, h⟩ := ao_some h
      obtain ⟨j10, hj10, h⟩ := ao_bind h
      refine an_getR r0 5 2 (q := (RX5, TX5, 11)) dX5_release_37 rfl hk9 (Nat.le_of_ble_eq_true rfl) rfl lf_X5_18 hj10 ?_
      refine ao_iload_n 3 dX5_release_40 rfl rfl ?_
      refine ao_iconst (v := (-1)) dX5_release_41 (by decide) ?_
      obtain ⟨hk11, h⟩ := ao_some h
      obtain ⟨hb12, h⟩ := ao_some h
      refine an_iastore j10 dX5_release_42 hk11 hb12 (fun M13 hM13 => ?_)
      replace h := ao_letD h hM13
      refine ao_aload_n 0 dX5_release_43 rfl rfl ?_
      refine ao_iload_n 3 dX5_release_44 rfl rfl ?_
      refine ao_aload_n 0 dX5_release_45 rfl rfl ?_
      obtain ⟨j14, hj14, h⟩ := ao_bind h
      refine an_getR r0 5 0 (q := (RX5, TX5, 11)) dX5_release_46 rfl hk9 (Nat.le_of_ble_eq_true rfl) rfl lf_X5_9 hj14 ?_
      refine ao_iload_n 3 dX5_release_49 rfl rfl ?_
      obtain ⟨hk15, h⟩ := ao_some h
      obtain ⟨hb16, h⟩ := ao_some h
      refine an_iaload j14 dX5_release_50 hk15 hb16 ?_
      obtain ⟨p17, hp17, h⟩ := ao_bind h
      refine ba_callVv r0 5 (q := (RX5, TX5, 11)) [.int x3, .int (M13 j14 x3.toNatClampNeg)] (aX5_change (d - 1) (by omega) n r0 x3 (M13 j14 x3.toNatClampNeg) M13 ρ hp17) dX5_release_51 lc_X5_57 li_X5_change ls_X5_change rfl hk9 rfl rfl (Nat.le_of_ble_eq_true rfl) (ao_hR (by omega) (by decide)) (ao_leC (me_X5_change n r0 x3 (M13 j14 x3.toNatClampNeg) M13 ρ hp17) ((mX5_release n).2.2.2 r0 x1 x2 x3 p17.1 p17.2 _ h)) (ao_leS (me_X5_change n r0 x3 (M13 j14 x3.toNatClampNeg) M13 ρ hp17) ((mX5_release n).2.2.2 r0 x1 x2 x3 p17.1 p17.2 _ h)) ?_
      exact ih.2.2.2 r0 x1 x2 x3 p17.1 p17.2 _ h
    · intro r0 x1 x2 x3 M ρ y h
      replace h := ao_ifF h (by decide)
      replace h := ao_ifF h (by decide)
      replace h := ao_ifF h (by decide)
      replace h := ao_ifT h rfl
      obtain ⟨v18, hv18⟩ : ∃ z : Int32, z = x3 + (1 : Int32) := ⟨_, rfl⟩
      replace h := ao_letD h hv18
      refine ao_iinc 3 (v := v18) (lo' := [some (.ref (Γ.2.2.2 + r0)), some (.int x1), some (.int x2), some (.int v18)]) dX5_release_54 rfl (by rw [hv18]; rfl) (Nat.le_of_ble_eq_true rfl) rfl ?_
      refine ao_goto 4 dX5_release_57 (by decide) ?_
      exact ih.2.1 r0 x1 x2 v18 M ρ _ h
theorem me_X5_release (n : Nat) (r0 : Nat) (x1 : Int32) (M : ao_M) (ρ : ao_H) {y : ao_S} (h : gX5_release n r0 x1 M ρ = some y) : ao_le ρ y.2 := (mX5_release n).1 r0 x1 M ρ y h
set_option maxRecDepth 100000 in
set_option maxHeartbeats 4000000 in
theorem aX5_release {Γ : ao_C} (d : Nat) (hd : 3 ≤ d) (n : Nat) (r0 : Nat) (x1 : Int32) (M : ao_M) (ρ : ao_H) {y : ao_S} (h : gX5_release n r0 x1 M ρ = some y) : ao_A Γ uX5_release d (ao_dc ρ y.2) (ao_ds ρ y.2) [.ref (Γ.2.2.2 + r0), .int x1] (M, ρ) (ao_QV y) := by
  refine ao_of (by decide) (ao_cat1 (Nat.le_of_ble_eq_true rfl)) (Nat.le_of_ble_eq_true rfl) ?_
  show ao_W Γ uX5_release (ao_rm d (ao_dc ρ y.2) (ao_ds ρ y.2)) (ao_Q Γ (ao_QV y) (ao_dc ρ y.2) (ao_ds ρ y.2)) (ao_dc ρ y.2) (ao_ds ρ y.2) 0 [some (.ref (Γ.2.2.2 + r0)), some (.int x1), none, none] [] (M, ρ)
  exact (wX5_release d hd _ _ n).1 r0 x1 M ρ y h

abbrev uX6_addRead : ao_Mi := (yX6_addRead, cX6_addRead, 3, none, [])
def gX6_addRead (n : Nat) (r0 : Nat) (x1 : Int32) (x2 : Int32) (M : ao_M) (ρ : ao_H) : Option (ao_M) :=
  if ρ.2.1 r0 = 16 then
  (ρ.1 r0 1).bind fun j2 =>
  (ρ.1 r0 5).bind fun j3 =>
  (ρ.1 r0 6).bind fun j4 =>
  (gX6_note n r0 j2 j3 j4 x1 x2 M ρ).bind fun p5 =>
  some p5
  else none
set_option maxRecDepth 100000 in
set_option maxHeartbeats 4000000 in
theorem aX6_addRead {Γ : ao_C} (d : Nat) (hd : 1 ≤ d) (n : Nat) (r0 : Nat) (x1 : Int32) (x2 : Int32) (M : ao_M) (ρ : ao_H) {y : ao_M} (h : gX6_addRead n r0 x1 x2 M ρ = some y) : ao_A Γ uX6_addRead d 0 0 [.ref (Γ.2.2.2 + r0), .int x1, .int x2] (M, ρ) (ao_PV ρ y) := by
  refine ao_of (by decide) (ao_cat1 (Nat.le_of_ble_eq_true rfl)) (Nat.le_of_ble_eq_true rfl) ?_
  show ao_W Γ uX6_addRead (ao_rm d 0 0) (ao_Q Γ (ao_PV ρ y) 0 0) 0 0 0 [some (.ref (Γ.2.2.2 + r0)), some (.int x1), some (.int x2)] [] (M, ρ)
  unfold gX6_addRead at h
  refine ao_aload_n 0 dX6_addRead_0 rfl rfl ?_
  refine ao_aload_n 0 dX6_addRead_1 rfl rfl ?_
  obtain ⟨hk1, h⟩ := ao_some h
  obtain ⟨j2, hj2, h⟩ := ao_bind h
  refine an_getR r0 6 1 (q := (RX6, TX6, 11)) dX6_addRead_2 rfl hk1 (Nat.le_of_ble_eq_true rfl) rfl lf_X6_15 hj2 ?_
  refine ao_aload_n 0 dX6_addRead_5 rfl rfl ?_
  obtain ⟨j3, hj3, h⟩ := ao_bind h
  refine an_getR r0 6 5 (q := (RX6, TX6, 11)) dX6_addRead_6 rfl hk1 (Nat.le_of_ble_eq_true rfl) rfl lf_X6_29 hj3 ?_
  refine ao_aload_n 0 dX6_addRead_9 rfl rfl ?_
  obtain ⟨j4, hj4, h⟩ := ao_bind h
  refine an_getR r0 6 6 (q := (RX6, TX6, 11)) dX6_addRead_10 rfl hk1 (Nat.le_of_ble_eq_true rfl) rfl lf_X6_32 hj4 ?_
  refine ao_iload_n 1 dX6_addRead_13 rfl rfl ?_
  refine ao_iload_n 2 dX6_addRead_14 rfl rfl ?_
  obtain ⟨p5, hp5, h⟩ := ao_bind h
  refine an_callVv r0 6 (q := (RX6, TX6, 11)) [.ref (Γ.2.2.2 + j2), .ref (Γ.2.2.2 + j3), .ref (Γ.2.2.2 + j4), .int x1, .int x2] (aX6_note (d - 1) (by omega) _ r0 j2 j3 j4 x1 x2 M ρ hp5) dX6_addRead_15 lc_X6_49 li_X6_note ls_X6_note rfl hk1 rfl rfl (Nat.le_of_ble_eq_true rfl) (ao_hR (by omega) (by decide)) ?_
  cases h
  exact ao_return dX6_addRead_18 rfl ⟨rfl, rfl⟩

abbrev uX6_addWrite : ao_Mi := (yX6_addWrite, cX6_addWrite, 3, none, [])
def gX6_addWrite (n : Nat) (r0 : Nat) (x1 : Int32) (x2 : Int32) (M : ao_M) (ρ : ao_H) : Option (ao_M) :=
  if ρ.2.1 r0 = 16 then
  (ρ.1 r0 2).bind fun j2 =>
  (ρ.1 r0 7).bind fun j3 =>
  (ρ.1 r0 8).bind fun j4 =>
  (gX6_note n r0 j2 j3 j4 x1 x2 M ρ).bind fun p5 =>
  some p5
  else none
set_option maxRecDepth 100000 in
set_option maxHeartbeats 4000000 in
theorem aX6_addWrite {Γ : ao_C} (d : Nat) (hd : 1 ≤ d) (n : Nat) (r0 : Nat) (x1 : Int32) (x2 : Int32) (M : ao_M) (ρ : ao_H) {y : ao_M} (h : gX6_addWrite n r0 x1 x2 M ρ = some y) : ao_A Γ uX6_addWrite d 0 0 [.ref (Γ.2.2.2 + r0), .int x1, .int x2] (M, ρ) (ao_PV ρ y) := by
  refine ao_of (by decide) (ao_cat1 (Nat.le_of_ble_eq_true rfl)) (Nat.le_of_ble_eq_true rfl) ?_
  show ao_W Γ uX6_addWrite (ao_rm d 0 0) (ao_Q Γ (ao_PV ρ y) 0 0) 0 0 0 [some (.ref (Γ.2.2.2 + r0)), some (.int x1), some (.int x2)] [] (M, ρ)
  unfold gX6_addWrite at h
  refine ao_aload_n 0 dX6_addWrite_0 rfl rfl ?_
  refine ao_aload_n 0 dX6_addWrite_1 rfl rfl ?_
  obtain ⟨hk1, h⟩ := ao_some h
  obtain ⟨j2, hj2, h⟩ := ao_bind h
  refine an_getR r0 6 2 (q := (RX6, TX6, 11)) dX6_addWrite_2 rfl hk1 (Nat.le_of_ble_eq_true rfl) rfl lf_X6_18 hj2 ?_
  refine ao_aload_n 0 dX6_addWrite_5 rfl rfl ?_
  obtain ⟨j3, hj3, h⟩ := ao_bind h
  refine an_getR r0 6 7 (q := (RX6, TX6, 11)) dX6_addWrite_6 rfl hk1 (Nat.le_of_ble_eq_true rfl) rfl lf_X6_35 hj3 ?_
  refine ao_aload_n 0 dX6_addWrite_9 rfl rfl ?_
  obtain ⟨j4, hj4, h⟩ := ao_bind h
  refine an_getR r0 6 8 (q := (RX6, TX6, 11)) dX6_addWrite_10 rfl hk1 (Nat.le_of_ble_eq_true rfl) rfl lf_X6_38 hj4 ?_
  refine ao_iload_n 1 dX6_addWrite_13 rfl rfl ?_
  refine ao_iload_n 2 dX6_addWrite_14 rfl rfl ?_
  obtain ⟨p5, hp5, h⟩ := ao_bind h
  refine an_callVv r0 6 (q := (RX6, TX6, 11)) [.ref (Γ.2.2.2 + j2), .ref (Γ.2.2.2 + j3), .ref (Γ.2.2.2 + j4), .int x1, .int x2] (aX6_note (d - 1) (by omega) _ r0 j2 j3 j4 x1 x2 M ρ hp5) dX6_addWrite_15 lc_X6_49 li_X6_note ls_X6_note rfl hk1 rfl rfl (Nat.le_of_ble_eq_true rfl) (ao_hR (by omega) (by decide)) ?_
  cases h
  exact ao_return dX6_addWrite_18 rfl ⟨rfl, rfl⟩

abbrev uX7_renew : ao_Mi := (yX7_renew, cX7_renew, 1, none, [])
def gX7_renew (n : Nat) (r0 : Nat) (M : ao_M) (ρ : ao_H) : Option (ao_M) :=
  if ρ.2.1 r0 = 17 then
  ao_let (ao_u M r0 2 (1 : Int32)) fun M2 =>
  ao_let (ao_u M2 r0 3 (0 : Int32)) fun M3 =>
  ao_let (ao_u M3 r0 5 (0 : Int32)) fun M4 =>
  (ρ.1 r0 6).bind fun j5 =>
  (gJ7_fill_53178 n j5 (0 : Int32) M4 ρ).bind fun p6 =>
  ao_let (ao_u p6 r0 8 (0 : Int32)) fun M7 =>
  ao_let (ao_u M7 r0 11 (0 : Int32)) fun M8 =>
  ao_let (ao_u M8 r0 13 (0 : Int32)) fun M9 =>
  ao_let (ao_u M9 r0 14 (0 : Int32)) fun M10 =>
  ao_let (ao_u M10 r0 15 (0 : Int32)) fun M11 =>
  ao_let (ao_u M11 r0 16 (0 : Int32)) fun M12 =>
  ao_let (ao_u M12 r0 17 (0 : Int32)) fun M13 =>
  ao_let (ao_u M13 r0 18 (0 : Int32)) fun M14 =>
  ao_let (ao_u M14 r0 19 (0 : Int32)) fun M15 =>
  some M15
  else none
set_option maxRecDepth 100000 in
set_option maxHeartbeats 4000000 in
theorem aX7_renew {Γ : ao_C} (d : Nat) (hd : 1 ≤ d) (n : Nat) (r0 : Nat) (M : ao_M) (ρ : ao_H) {y : ao_M} (h : gX7_renew n r0 M ρ = some y) : ao_A Γ uX7_renew d 0 0 [.ref (Γ.2.2.2 + r0)] (M, ρ) (ao_PV ρ y) := by
  refine ao_of (by decide) (ao_cat1 (Nat.le_of_ble_eq_true rfl)) (Nat.le_of_ble_eq_true rfl) ?_
  show ao_W Γ uX7_renew (ao_rm d 0 0) (ao_Q Γ (ao_PV ρ y) 0 0) 0 0 0 [some (.ref (Γ.2.2.2 + r0))] [] (M, ρ)
  unfold gX7_renew at h
  refine ao_aload_n 0 dX7_renew_0 rfl rfl ?_
  refine ao_iconst (v := 1) dX7_renew_1 (by decide) ?_
  obtain ⟨hk1, h⟩ := ao_some h
  refine an_putI r0 7 2 (q := (RX7, TX7, 20)) dX7_renew_2 rfl hk1 (Nat.le_of_ble_eq_true rfl) lf_X7_24 rfl rfl rfl rfl (fun M2 hM2 => ?_)
  replace h := ao_letD h hM2
  refine ao_aload_n 0 dX7_renew_5 rfl rfl ?_
  refine ao_iconst (v := 0) dX7_renew_6 (by decide) ?_
  refine an_putI r0 7 3 (q := (RX7, TX7, 20)) dX7_renew_7 rfl hk1 (Nat.le_of_ble_eq_true rfl) lf_X7_50 rfl rfl rfl rfl (fun M3 hM3 => ?_)
  replace h := ao_letD h hM3
  refine ao_aload_n 0 dX7_renew_10 rfl rfl ?_
  refine ao_iconst (v := 0) dX7_renew_11 (by decide) ?_
  refine an_putI r0 7 5 (q := (RX7, TX7, 20)) dX7_renew_12 rfl hk1 (Nat.le_of_ble_eq_true rfl) lf_X7_53 rfl rfl rfl rfl (fun M4 hM4 => ?_)
  replace h := ao_letD h hM4
  refine ao_aload_n 0 dX7_renew_15 rfl rfl ?_
  obtain ⟨j5, hj5, h⟩ := ao_bind h
  refine an_getR r0 7 6 (q := (RX7, TX7, 20)) dX7_renew_16 rfl hk1 (Nat.le_of_ble_eq_true rfl) rfl lf_X7_31 hj5 ?_
  refine ao_iconst (v := 0) dX7_renew_19 (by decide) ?_
  obtain ⟨p6, hp6, h⟩ := ao_bind h
  refine an_callSv [.ref (Γ.2.2.2 + j5), .int (0 : Int32)] (aJ7_fill_53178 (d - 1) (by omega) _ j5 (0 : Int32) M4 ρ hp6) dX7_renew_20 lc_X7_56 lt_J7_fill_53178 rfl rfl (Nat.le_of_ble_eq_true rfl) (ao_hR (by omega) (by decide)) ?_
  refine ao_aload_n 0 dX7_renew_23 rfl rfl ?_
  refine ao_iconst (v := 0) dX7_renew_24 (by decide) ?_
  refine an_putI r0 7 8 (q := (RX7, TX7, 20)) dX7_renew_25 rfl hk1 (Nat.le_of_ble_eq_true rfl) lf_X7_62 rfl rfl rfl rfl (fun M7 hM7 => ?_)
  replace h := ao_letD h hM7
  refine ao_aload_n 0 dX7_renew_28 rfl rfl ?_
  refine ao_iconst (v := 0) dX7_renew_29 (by decide) ?_
  refine an_putI r0 7 11 (q := (RX7, TX7, 20)) dX7_renew_30 rfl hk1 (Nat.le_of_ble_eq_true rfl) lf_X7_65 rfl rfl rfl rfl (fun M8 hM8 => ?_)
  replace h := ao_letD h hM8
  refine ao_aload_n 0 dX7_renew_33 rfl rfl ?_
  refine ao_iconst (v := 0) dX7_renew_34 (by decide) ?_
  refine an_putI r0 7 13 (q := (RX7, TX7, 20)) dX7_renew_35 rfl hk1 (Nat.le_of_ble_eq_true rfl) lf_X7_68 rfl rfl rfl rfl (fun M9 hM9 => ?_)
  replace h := ao_letD h hM9
  refine ao_aload_n 0 dX7_renew_38 rfl rfl ?_
  refine ao_iconst (v := 0) dX7_renew_39 (by decide) ?_
  refine an_putI r0 7 14 (q := (RX7, TX7, 20)) dX7_renew_40 rfl hk1 (Nat.le_of_ble_eq_true rfl) lf_X7_71 rfl rfl rfl rfl (fun M10 hM10 => ?_)
  replace h := ao_letD h hM10
  refine ao_aload_n 0 dX7_renew_43 rfl rfl ?_
  refine ao_iconst (v := 0) dX7_renew_44 (by decide) ?_
  refine an_putI r0 7 15 (q := (RX7, TX7, 20)) dX7_renew_45 rfl hk1 (Nat.le_of_ble_eq_true rfl) lf_X7_74 rfl rfl rfl rfl (fun M11 hM11 => ?_)
  replace h := ao_letD h hM11
  refine ao_aload_n 0 dX7_renew_48 rfl rfl ?_
  refine ao_iconst (v := 0) dX7_renew_49 (by decide) ?_
  refine an_putI r0 7 16 (q := (RX7, TX7, 20)) dX7_renew_50 rfl hk1 (Nat.le_of_ble_eq_true rfl) lf_X7_77 rfl rfl rfl rfl (fun M12 hM12 => ?_)
  replace h := ao_letD h hM12
  refine ao_aload_n 0 dX7_renew_53 rfl rfl ?_
  refine ao_iconst (v := 0) dX7_renew_54 (by decide) ?_
  refine an_putI r0 7 17 (q := (RX7, TX7, 20)) dX7_renew_55 rfl hk1 (Nat.le_of_ble_eq_true rfl) lf_X7_80 rfl rfl rfl rfl (fun M13 hM13 => ?_)
  replace h := ao_letD h hM13
  refine ao_aload_n 0 dX7_renew_58 rfl rfl ?_
  refine ao_iconst (v := 0) dX7_renew_59 (by decide) ?_
  refine an_putI r0 7 18 (q := (RX7, TX7, 20)) dX7_renew_60 rfl hk1 (Nat.le_of_ble_eq_true rfl) lf_X7_83 rfl rfl rfl rfl (fun M14 hM14 => ?_)
  replace h := ao_letD h hM14
  refine ao_aload_n 0 dX7_renew_63 rfl rfl ?_
  refine ao_iconst (v := 0) dX7_renew_64 (by decide) ?_
  refine an_putI r0 7 19 (q := (RX7, TX7, 20)) dX7_renew_65 rfl hk1 (Nat.le_of_ble_eq_true rfl) lf_X7_86 rfl rfl rfl rfl (fun M15 hM15 => ?_)
  replace h := ao_letD h hM15
  cases h
  exact ao_return dX7_renew_68 rfl ⟨rfl, rfl⟩

abbrev uX7_tellOf : ao_Mi := (yX7_tellOf, cX7_tellOf, 2, (some .int), [])
def gX7_tellOf (n : Nat) (r0 : Nat) (x1 : Int32) (M : ao_M) (ρ : ao_H) : Option (Int32 × ao_M) :=
  if x1 = (0 : Int32) then
    if ρ.2.1 r0 = 17 then
    some ((M r0 2), M)
    else none
  else
    if x1 = (1 : Int32) then
      if ρ.2.1 r0 = 17 then
      if (M r0 2) = (2 : Int32) then
        some ((M r0 8), M)
      else
        some ((0 : Int32), M)
      else none
    else
      if x1 = (2 : Int32) then
        if ρ.2.1 r0 = 17 then
        (gX7_readsOfAll n r0 M ρ).bind fun p8 =>
        some (p8.1, p8.2)
        else none
      else
        if x1 = (3 : Int32) then
          if ρ.2.1 r0 = 17 then
          if (M r0 2) = (2 : Int32) then
            (gX7_writesOfAll n r0 M ρ).bind fun p12 =>
            (gJ6_bitCount_0f7a4 p12.1 p12.2 ρ).bind fun p13 =>
            some (p13.1, p13.2)
          else
            some ((0 : Int32), M)
          else none
        else
          if x1 = (4 : Int32) then
            if ρ.2.1 r0 = 17 then
            some ((M r0 17), M)
            else none
          else
            if x1 = (5 : Int32) then
              if ρ.2.1 r0 = 17 then
              if (M r0 2) = (2 : Int32) then
                some ((M r0 14), M)
              else
                some ((0 : Int32), M)
              else none
            else
              if x1 = (6 : Int32) then
                if ρ.2.1 r0 = 17 then
                some ((M r0 19), M)
                else none
              else
                if ρ.2.1 r0 = 17 then
                some ((M r0 18), M)
                else none
set_option maxRecDepth 100000 in
set_option maxHeartbeats 4000000 in
theorem aX7_tellOf {Γ : ao_C} (d : Nat) (hd : 2 ≤ d) (n : Nat) (r0 : Nat) (x1 : Int32) (M : ao_M) (ρ : ao_H) {y : Int32 × ao_M} (h : gX7_tellOf n r0 x1 M ρ = some y) : ao_A Γ uX7_tellOf d 0 0 [.ref (Γ.2.2.2 + r0), .int x1] (M, ρ) (ao_PI ρ y) := by
  refine ao_of (by decide) (ao_cat1 (Nat.le_of_ble_eq_true rfl)) (Nat.le_of_ble_eq_true rfl) ?_
  show ao_W Γ uX7_tellOf (ao_rm d 0 0) (ao_Q Γ (ao_PI ρ y) 0 0) 0 0 0 [some (.ref (Γ.2.2.2 + r0)), some (.int x1)] [] (M, ρ)
  unfold gX7_tellOf at h
  refine ao_iload_n 1 dX7_tellOf_0 rfl rfl ?_
  by_cases c1 : x1 = (0 : Int32)
  · replace h := ao_ifT h c1
    refine ao_tableIn 44 dX7_tellOf_1 (by rw [c1]; decide) (by rw [c1]; decide) (by rw [c1]; rfl) (by decide) ?_
    refine ao_aload_n 0 dX7_tellOf_44 rfl rfl ?_
    obtain ⟨hk2, h⟩ := ao_some h
    refine an_getI r0 7 2 (q := (RX7, TX7, 20)) dX7_tellOf_45 rfl hk2 (Nat.le_of_ble_eq_true rfl) rfl lf_X7_24 ?_
    cases h
    exact ao_ireturn dX7_tellOf_48 rfl rfl ⟨rfl, rfl⟩
  · replace h := ao_ifF h c1
    by_cases c3 : x1 = (1 : Int32)
    · replace h := ao_ifT h c3
      refine ao_tableIn 49 dX7_tellOf_1 (by rw [c3]; decide) (by rw [c3]; decide) (by rw [c3]; rfl) (by decide) ?_
      refine ao_aload_n 0 dX7_tellOf_49 rfl rfl ?_
      obtain ⟨hk4, h⟩ := ao_some h
      refine an_getI r0 7 2 (q := (RX7, TX7, 20)) dX7_tellOf_50 rfl hk4 (Nat.le_of_ble_eq_true rfl) rfl lf_X7_24 ?_
      refine ao_iconst (v := 2) dX7_tellOf_53 (by decide) ?_
      refine ao_icmp_ne 64 dX7_tellOf_54 (by decide) (fun c5 => ?_) (fun c5 => ?_)
      · replace h := ao_ifF h c5
        refine ao_iconst (v := 0) dX7_tellOf_64 (by decide) ?_
        cases h
        exact ao_ireturn dX7_tellOf_65 rfl rfl ⟨rfl, rfl⟩
      · replace h := ao_ifT h c5
        refine ao_aload_n 0 dX7_tellOf_57 rfl rfl ?_
        refine an_getI r0 7 8 (q := (RX7, TX7, 20)) dX7_tellOf_58 rfl hk4 (Nat.le_of_ble_eq_true rfl) rfl lf_X7_62 ?_
        refine ao_goto 65 dX7_tellOf_61 (by decide) ?_
        cases h
        exact ao_ireturn dX7_tellOf_65 rfl rfl ⟨rfl, rfl⟩
    · replace h := ao_ifF h c3
      by_cases c6 : x1 = (2 : Int32)
      · replace h := ao_ifT h c6
        refine ao_tableIn 66 dX7_tellOf_1 (by rw [c6]; decide) (by rw [c6]; decide) (by rw [c6]; rfl) (by decide) ?_
        refine ao_aload_n 0 dX7_tellOf_66 rfl rfl ?_
        obtain ⟨hk7, h⟩ := ao_some h
        obtain ⟨p8, hp8, h⟩ := ao_bind h
        refine an_callVi r0 7 (q := (RX7, TX7, 20)) [] (aX7_readsOfAll (d - 1) (by omega) _ r0 M ρ hp8) dX7_tellOf_67 lc_X7_123 li_X7_readsOfAll ls_X7_readsOfAll rfl hk7 rfl rfl (Nat.le_of_ble_eq_true rfl) (ao_hR (by omega) (by decide)) ?_
        cases h
        exact ao_ireturn dX7_tellOf_70 rfl rfl ⟨rfl, rfl⟩
      · replace h := ao_ifF h c6
        by_cases c9 : x1 = (3 : Int32)
        · replace h := ao_ifT h c9
          refine ao_tableIn 71 dX7_tellOf_1 (by rw [c9]; decide) (by rw [c9]; decide) (by rw [c9]; rfl) (by decide) ?_
          refine ao_aload_n 0 dX7_tellOf_71 rfl rfl ?_
          obtain ⟨hk10, h⟩ := ao_some h
          refine an_getI r0 7 2 (q := (RX7, TX7, 20)) dX7_tellOf_72 rfl hk10 (Nat.le_of_ble_eq_true rfl) rfl lf_X7_24 ?_
          refine ao_iconst (v := 2) dX7_tellOf_75 (by decide) ?_
          refine ao_icmp_ne 89 dX7_tellOf_76 (by decide) (fun c11 => ?_) (fun c11 => ?_)
          · replace h := ao_ifF h c11
            refine ao_iconst (v := 0) dX7_tellOf_89 (by decide) ?_
            cases h
            exact ao_ireturn dX7_tellOf_90 rfl rfl ⟨rfl, rfl⟩
          · replace h := ao_ifT h c11
            refine ao_aload_n 0 dX7_tellOf_79 rfl rfl ?_
            obtain ⟨p12, hp12, h⟩ := ao_bind h
            refine an_callVi r0 7 (q := (RX7, TX7, 20)) [] (aX7_writesOfAll (d - 1) (by omega) _ r0 M ρ hp12) dX7_tellOf_80 lc_X7_127 li_X7_writesOfAll ls_X7_writesOfAll rfl hk10 rfl rfl (Nat.le_of_ble_eq_true rfl) (ao_hR (by omega) (by decide)) ?_
            obtain ⟨p13, hp13, h⟩ := ao_bind h
            refine an_callSi [.int p12.1] (aJ6_bitCount_0f7a4 (d - 1) (by omega) p12.1 p12.2 ρ hp13) dX7_tellOf_83 lc_X7_130 lt_J6_bitCount_0f7a4 rfl rfl (Nat.le_of_ble_eq_true rfl) (ao_hR (by omega) (by decide)) ?_
            refine ao_goto 90 dX7_tellOf_86 (by decide) ?_
            cases h
            exact ao_ireturn dX7_tellOf_90 rfl rfl ⟨rfl, rfl⟩
        · replace h := ao_ifF h c9
          by_cases c14 : x1 = (4 : Int32)
          · replace h := ao_ifT h c14
            refine ao_tableIn 91 dX7_tellOf_1 (by rw [c14]; decide) (by rw [c14]; decide) (by rw [c14]; rfl) (by decide) ?_
            refine ao_aload_n 0 dX7_tellOf_91 rfl rfl ?_
            obtain ⟨hk15, h⟩ := ao_some h
            refine an_getI r0 7 17 (q := (RX7, TX7, 20)) dX7_tellOf_92 rfl hk15 (Nat.le_of_ble_eq_true rfl) rfl lf_X7_80 ?_
            cases h
            exact ao_ireturn dX7_tellOf_95 rfl rfl ⟨rfl, rfl⟩
          · replace h := ao_ifF h c14
            by_cases c16 : x1 = (5 : Int32)
            · replace h := ao_ifT h c16
              refine ao_tableIn 96 dX7_tellOf_1 (by rw [c16]; decide) (by rw [c16]; decide) (by rw [c16]; rfl) (by decide) ?_
              refine ao_aload_n 0 dX7_tellOf_96 rfl rfl ?_
              obtain ⟨hk17, h⟩ := ao_some h
              refine an_getI r0 7 2 (q := (RX7, TX7, 20)) dX7_tellOf_97 rfl hk17 (Nat.le_of_ble_eq_true rfl) rfl lf_X7_24 ?_
              refine ao_iconst (v := 2) dX7_tellOf_100 (by decide) ?_
              refine ao_icmp_ne 111 dX7_tellOf_101 (by decide) (fun c18 => ?_) (fun c18 => ?_)
              · replace h := ao_ifF h c18
                refine ao_iconst (v := 0) dX7_tellOf_111 (by decide) ?_
                cases h
                exact ao_ireturn dX7_tellOf_112 rfl rfl ⟨rfl, rfl⟩
              · replace h := ao_ifT h c18
                refine ao_aload_n 0 dX7_tellOf_104 rfl rfl ?_
                refine an_getI r0 7 14 (q := (RX7, TX7, 20)) dX7_tellOf_105 rfl hk17 (Nat.le_of_ble_eq_true rfl) rfl lf_X7_71 ?_
                refine ao_goto 112 dX7_tellOf_108 (by decide) ?_
                cases h
                exact ao_ireturn dX7_tellOf_112 rfl rfl ⟨rfl, rfl⟩
            · replace h := ao_ifF h c16
              by_cases c19 : x1 = (6 : Int32)
              · replace h := ao_ifT h c19
                refine ao_tableIn 113 dX7_tellOf_1 (by rw [c19]; decide) (by rw [c19]; decide) (by rw [c19]; rfl) (by decide) ?_
                refine ao_aload_n 0 dX7_tellOf_113 rfl rfl ?_
                obtain ⟨hk20, h⟩ := ao_some h
                refine an_getI r0 7 19 (q := (RX7, TX7, 20)) dX7_tellOf_114 rfl hk20 (Nat.le_of_ble_eq_true rfl) rfl lf_X7_86 ?_
                cases h
                exact ao_ireturn dX7_tellOf_117 rfl rfl ⟨rfl, rfl⟩
              · replace h := ao_ifF h c19
                refine ao_tableOut 118 dX7_tellOf_1 (by have nc1 := ao_ne (z := 0) c1 (by decide); have nc3 := ao_ne (z := 1) c3 (by decide); have nc6 := ao_ne (z := 2) c6 (by decide); have nc9 := ao_ne (z := 3) c9 (by decide); have nc14 := ao_ne (z := 4) c14 (by decide); have nc16 := ao_ne (z := 5) c16 (by decide); have nc19 := ao_ne (z := 6) c19 (by decide); omega) (by decide) ?_
                refine ao_aload_n 0 dX7_tellOf_118 rfl rfl ?_
                obtain ⟨hk21, h⟩ := ao_some h
                refine an_getI r0 7 18 (q := (RX7, TX7, 20)) dX7_tellOf_119 rfl hk21 (Nat.le_of_ble_eq_true rfl) rfl lf_X7_83 ?_
                cases h
                exact ao_ireturn dX7_tellOf_122 rfl rfl ⟨rfl, rfl⟩

abbrev uX9_keywordKind : ao_Mi := (yX9_keywordKind, cX9_keywordKind, 1, (some .int), [])
def gX9_keywordKind (n : Nat) (r0 : Nat) (M : ao_M) (ρ : ao_H) : Option (Int32 × ao_M) :=
  if ρ.2.1 r0 = 19 then
  (gX9_isWord n r0 0 M ρ).bind fun p2 =>
  if p2.1 = 0 then
    (gX9_isWord n r0 1 p2.2 ρ).bind fun p4 =>
    if p4.1 = 0 then
      (gX9_isWord n r0 2 p4.2 ρ).bind fun p6 =>
      if p6.1 = 0 then
        (gX9_isWord n r0 3 p6.2 ρ).bind fun p8 =>
        if p8.1 = 0 then
          (gX9_isWord n r0 4 p8.2 ρ).bind fun p10 =>
          if p10.1 = 0 then
            (gX9_isWord n r0 5 p10.2 ρ).bind fun p12 =>
            if p12.1 = 0 then
              (gX9_isWord n r0 6 p12.2 ρ).bind fun p14 =>
              if p14.1 = 0 then
                (gX9_isWord n r0 7 p14.2 ρ).bind fun p16 =>
                if p16.1 = 0 then
                  (gX9_isWord n r0 8 p16.2 ρ).bind fun p18 =>
                  if p18.1 = 0 then
                    (gX9_isWord n r0 9 p18.2 ρ).bind fun p20 =>
                    if p20.1 = 0 then
                      (gX9_isWord n r0 10 p20.2 ρ).bind fun p22 =>
                      if p22.1 = 0 then
                        (gX9_isWord n r0 11 p22.2 ρ).bind fun p24 =>
                        if p24.1 = 0 then
                          some ((1 : Int32), p24.2)
                        else
                          some ((16 : Int32), p24.2)
                      else
                        some ((15 : Int32), p22.2)
                    else
                      some ((14 : Int32), p20.2)
                  else
                    some ((13 : Int32), p18.2)
                else
                  some ((12 : Int32), p16.2)
              else
                some ((11 : Int32), p14.2)
            else
              some ((10 : Int32), p12.2)
          else
            some ((9 : Int32), p10.2)
        else
          some ((8 : Int32), p8.2)
      else
        some ((7 : Int32), p6.2)
    else
      some ((6 : Int32), p4.2)
  else
    some ((5 : Int32), p2.2)
  else none
set_option maxRecDepth 100000 in
set_option maxHeartbeats 4000000 in
theorem aX9_keywordKind {Γ : ao_C} (d : Nat) (hd : 5 ≤ d) (n : Nat) (r0 : Nat) (M : ao_M) (ρ : ao_H) {y : Int32 × ao_M} (h : gX9_keywordKind n r0 M ρ = some y) : ao_A Γ uX9_keywordKind d 0 0 [.ref (Γ.2.2.2 + r0)] (M, ρ) (ao_PI ρ y) := by
  refine ao_of (by decide) (ao_cat1 (Nat.le_of_ble_eq_true rfl)) (Nat.le_of_ble_eq_true rfl) ?_
  show ao_W Γ uX9_keywordKind (ao_rm d 0 0) (ao_Q Γ (ao_PI ρ y) 0 0) 0 0 0 [some (.ref (Γ.2.2.2 + r0))] [] (M, ρ)
  unfold gX9_keywordKind at h
  refine ao_aload_n 0 dX9_keywordKind_0 rfl rfl ?_
  refine at_ldc 0 rfl dX9_keywordKind_1 ⟨rfl, rfl⟩ ?_
  obtain ⟨hk1, h⟩ := ao_some h
  obtain ⟨p2, hp2, h⟩ := ao_bind h
  refine an_callVi r0 9 (q := (RX9, TX9, 11)) [.ref (ao_tK Γ 0)] (aX9_isWord (d - 1) (by omega) _ r0 0 M ρ hp2) dX9_keywordKind_3 lc_X9_85 li_X9_isWord ls_X9_isWord rfl hk1 rfl rfl (Nat.le_of_ble_eq_true rfl) (ao_hR (by omega) (by decide)) ?_
  refine ao_if_eq 13 dX9_keywordKind_6 (by decide) (fun c3 => ?_) (fun c3 => ?_)
  · replace h := ao_ifT h c3
    refine ao_aload_n 0 dX9_keywordKind_13 rfl rfl ?_
    refine at_ldc 1 rfl dX9_keywordKind_14 ⟨rfl, rfl⟩ ?_
    obtain ⟨p4, hp4, h⟩ := ao_bind h
    refine an_callVi r0 9 (q := (RX9, TX9, 11)) [.ref (ao_tK Γ 1)] (aX9_isWord (d - 1) (by omega) _ r0 1 p2.2 ρ hp4) dX9_keywordKind_16 lc_X9_85 li_X9_isWord ls_X9_isWord rfl hk1 rfl rfl (Nat.le_of_ble_eq_true rfl) (ao_hR (by omega) (by decide)) ?_
    refine ao_if_eq 27 dX9_keywordKind_19 (by decide) (fun c5 => ?_) (fun c5 => ?_)
    · replace h := ao_ifT h c5
      refine ao_aload_n 0 dX9_keywordKind_27 rfl rfl ?_
      refine at_ldc 2 rfl dX9_keywordKind_28 ⟨rfl, rfl⟩ ?_
      obtain ⟨p6, hp6, h⟩ := ao_bind h
      refine an_callVi r0 9 (q := (RX9, TX9, 11)) [.ref (ao_tK Γ 2)] (aX9_isWord (d - 1) (by omega) _ r0 2 p4.2 ρ hp6) dX9_keywordKind_30 lc_X9_85 li_X9_isWord ls_X9_isWord rfl hk1 rfl rfl (Nat.le_of_ble_eq_true rfl) (ao_hR (by omega) (by decide)) ?_
      refine ao_if_eq 41 dX9_keywordKind_33 (by decide) (fun c7 => ?_) (fun c7 => ?_)
      · replace h := ao_ifT h c7
        refine ao_aload_n 0 dX9_keywordKind_41 rfl rfl ?_
        refine at_ldc 3 rfl dX9_keywordKind_42 ⟨rfl, rfl⟩ ?_
        obtain ⟨p8, hp8, h⟩ := ao_bind h
        refine an_callVi r0 9 (q := (RX9, TX9, 11)) [.ref (ao_tK Γ 3)] (aX9_isWord (d - 1) (by omega) _ r0 3 p6.2 ρ hp8) dX9_keywordKind_44 lc_X9_85 li_X9_isWord ls_X9_isWord rfl hk1 rfl rfl (Nat.le_of_ble_eq_true rfl) (ao_hR (by omega) (by decide)) ?_
        refine ao_if_eq 55 dX9_keywordKind_47 (by decide) (fun c9 => ?_) (fun c9 => ?_)
        · replace h := ao_ifT h c9
          refine ao_aload_n 0 dX9_keywordKind_55 rfl rfl ?_
          refine at_ldc 4 rfl dX9_keywordKind_56 ⟨rfl, rfl⟩ ?_
          obtain ⟨p10, hp10, h⟩ := ao_bind h
          refine an_callVi r0 9 (q := (RX9, TX9, 11)) [.ref (ao_tK Γ 4)] (aX9_isWord (d - 1) (by omega) _ r0 4 p8.2 ρ hp10) dX9_keywordKind_58 lc_X9_85 li_X9_isWord ls_X9_isWord rfl hk1 rfl rfl (Nat.le_of_ble_eq_true rfl) (ao_hR (by omega) (by decide)) ?_
          refine ao_if_eq 69 dX9_keywordKind_61 (by decide) (fun c11 => ?_) (fun c11 => ?_)
          · replace h := ao_ifT h c11
            refine ao_aload_n 0 dX9_keywordKind_69 rfl rfl ?_
            refine at_ldc 5 rfl dX9_keywordKind_70 ⟨rfl, rfl⟩ ?_
            obtain ⟨p12, hp12, h⟩ := ao_bind h
            refine an_callVi r0 9 (q := (RX9, TX9, 11)) [.ref (ao_tK Γ 5)] (aX9_isWord (d - 1) (by omega) _ r0 5 p10.2 ρ hp12) dX9_keywordKind_72 lc_X9_85 li_X9_isWord ls_X9_isWord rfl hk1 rfl rfl (Nat.le_of_ble_eq_true rfl) (ao_hR (by omega) (by decide)) ?_
            refine ao_if_eq 83 dX9_keywordKind_75 (by decide) (fun c13 => ?_) (fun c13 => ?_)
            · replace h := ao_ifT h c13
              refine ao_aload_n 0 dX9_keywordKind_83 rfl rfl ?_
              refine at_ldc 6 rfl dX9_keywordKind_84 ⟨rfl, rfl⟩ ?_
              obtain ⟨p14, hp14, h⟩ := ao_bind h
              refine an_callVi r0 9 (q := (RX9, TX9, 11)) [.ref (ao_tK Γ 6)] (aX9_isWord (d - 1) (by omega) _ r0 6 p12.2 ρ hp14) dX9_keywordKind_86 lc_X9_85 li_X9_isWord ls_X9_isWord rfl hk1 rfl rfl (Nat.le_of_ble_eq_true rfl) (ao_hR (by omega) (by decide)) ?_
              refine ao_if_eq 97 dX9_keywordKind_89 (by decide) (fun c15 => ?_) (fun c15 => ?_)
              · replace h := ao_ifT h c15
                refine ao_aload_n 0 dX9_keywordKind_97 rfl rfl ?_
                refine at_ldc 7 rfl dX9_keywordKind_98 ⟨rfl, rfl⟩ ?_
                obtain ⟨p16, hp16, h⟩ := ao_bind h
                refine an_callVi r0 9 (q := (RX9, TX9, 11)) [.ref (ao_tK Γ 7)] (aX9_isWord (d - 1) (by omega) _ r0 7 p14.2 ρ hp16) dX9_keywordKind_100 lc_X9_85 li_X9_isWord ls_X9_isWord rfl hk1 rfl rfl (Nat.le_of_ble_eq_true rfl) (ao_hR (by omega) (by decide)) ?_
                refine ao_if_eq 111 dX9_keywordKind_103 (by decide) (fun c17 => ?_) (fun c17 => ?_)
                · replace h := ao_ifT h c17
                  refine ao_aload_n 0 dX9_keywordKind_111 rfl rfl ?_
                  refine at_ldc 8 rfl dX9_keywordKind_112 ⟨rfl, rfl⟩ ?_
                  obtain ⟨p18, hp18, h⟩ := ao_bind h
                  refine an_callVi r0 9 (q := (RX9, TX9, 11)) [.ref (ao_tK Γ 8)] (aX9_isWord (d - 1) (by omega) _ r0 8 p16.2 ρ hp18) dX9_keywordKind_114 lc_X9_85 li_X9_isWord ls_X9_isWord rfl hk1 rfl rfl (Nat.le_of_ble_eq_true rfl) (ao_hR (by omega) (by decide)) ?_
                  refine ao_if_eq 125 dX9_keywordKind_117 (by decide) (fun c19 => ?_) (fun c19 => ?_)
                  · replace h := ao_ifT h c19
                    refine ao_aload_n 0 dX9_keywordKind_125 rfl rfl ?_
                    refine at_ldc 9 rfl dX9_keywordKind_126 ⟨rfl, rfl⟩ ?_
                    obtain ⟨p20, hp20, h⟩ := ao_bind h
                    refine an_callVi r0 9 (q := (RX9, TX9, 11)) [.ref (ao_tK Γ 9)] (aX9_isWord (d - 1) (by omega) _ r0 9 p18.2 ρ hp20) dX9_keywordKind_128 lc_X9_85 li_X9_isWord ls_X9_isWord rfl hk1 rfl rfl (Nat.le_of_ble_eq_true rfl) (ao_hR (by omega) (by decide)) ?_
                    refine ao_if_eq 139 dX9_keywordKind_131 (by decide) (fun c21 => ?_) (fun c21 => ?_)
                    · replace h := ao_ifT h c21
                      refine ao_aload_n 0 dX9_keywordKind_139 rfl rfl ?_
                      refine at_ldc 10 rfl dX9_keywordKind_140 ⟨rfl, rfl⟩ ?_
                      obtain ⟨p22, hp22, h⟩ := ao_bind h
                      refine an_callVi r0 9 (q := (RX9, TX9, 11)) [.ref (ao_tK Γ 10)] (aX9_isWord (d - 1) (by omega) _ r0 10 p20.2 ρ hp22) dX9_keywordKind_142 lc_X9_85 li_X9_isWord ls_X9_isWord rfl hk1 rfl rfl (Nat.le_of_ble_eq_true rfl) (ao_hR (by omega) (by decide)) ?_
                      refine ao_if_eq 153 dX9_keywordKind_145 (by decide) (fun c23 => ?_) (fun c23 => ?_)
                      · replace h := ao_ifT h c23
                        refine ao_aload_n 0 dX9_keywordKind_153 rfl rfl ?_
                        refine at_ldc 11 rfl dX9_keywordKind_154 ⟨rfl, rfl⟩ ?_
                        obtain ⟨p24, hp24, h⟩ := ao_bind h
                        refine an_callVi r0 9 (q := (RX9, TX9, 11)) [.ref (ao_tK Γ 11)] (aX9_isWord (d - 1) (by omega) _ r0 11 p22.2 ρ hp24) dX9_keywordKind_156 lc_X9_85 li_X9_isWord ls_X9_isWord rfl hk1 rfl rfl (Nat.le_of_ble_eq_true rfl) (ao_hR (by omega) (by decide)) ?_
                        refine ao_if_eq 167 dX9_keywordKind_159 (by decide) (fun c25 => ?_) (fun c25 => ?_)
                        · replace h := ao_ifT h c25
                          refine ao_iconst (v := 1) dX9_keywordKind_167 (by decide) ?_
                          cases h
                          exact ao_ireturn dX9_keywordKind_168 rfl rfl ⟨rfl, rfl⟩
                        · replace h := ao_ifF h c25
                          refine ao_bipush (v := 16) dX9_keywordKind_162 (by decide) ?_
                          refine ao_goto 168 dX9_keywordKind_164 (by decide) ?_
                          cases h
                          exact ao_ireturn dX9_keywordKind_168 rfl rfl ⟨rfl, rfl⟩
                      · replace h := ao_ifF h c23
                        refine ao_bipush (v := 15) dX9_keywordKind_148 (by decide) ?_
                        refine ao_goto 168 dX9_keywordKind_150 (by decide) ?_
                        cases h
                        exact ao_ireturn dX9_keywordKind_168 rfl rfl ⟨rfl, rfl⟩
                    · replace h := ao_ifF h c21
                      refine ao_bipush (v := 14) dX9_keywordKind_134 (by decide) ?_
                      refine ao_goto 168 dX9_keywordKind_136 (by decide) ?_
                      cases h
                      exact ao_ireturn dX9_keywordKind_168 rfl rfl ⟨rfl, rfl⟩
                  · replace h := ao_ifF h c19
                    refine ao_bipush (v := 13) dX9_keywordKind_120 (by decide) ?_
                    refine ao_goto 168 dX9_keywordKind_122 (by decide) ?_
                    cases h
                    exact ao_ireturn dX9_keywordKind_168 rfl rfl ⟨rfl, rfl⟩
                · replace h := ao_ifF h c17
                  refine ao_bipush (v := 12) dX9_keywordKind_106 (by decide) ?_
                  refine ao_goto 168 dX9_keywordKind_108 (by decide) ?_
                  cases h
                  exact ao_ireturn dX9_keywordKind_168 rfl rfl ⟨rfl, rfl⟩
              · replace h := ao_ifF h c15
                refine ao_bipush (v := 11) dX9_keywordKind_92 (by decide) ?_
                refine ao_goto 168 dX9_keywordKind_94 (by decide) ?_
                cases h
                exact ao_ireturn dX9_keywordKind_168 rfl rfl ⟨rfl, rfl⟩
            · replace h := ao_ifF h c13
              refine ao_bipush (v := 10) dX9_keywordKind_78 (by decide) ?_
              refine ao_goto 168 dX9_keywordKind_80 (by decide) ?_
              cases h
              exact ao_ireturn dX9_keywordKind_168 rfl rfl ⟨rfl, rfl⟩
          · replace h := ao_ifF h c11
            refine ao_bipush (v := 9) dX9_keywordKind_64 (by decide) ?_
            refine ao_goto 168 dX9_keywordKind_66 (by decide) ?_
            cases h
            exact ao_ireturn dX9_keywordKind_168 rfl rfl ⟨rfl, rfl⟩
        · replace h := ao_ifF h c9
          refine ao_bipush (v := 8) dX9_keywordKind_50 (by decide) ?_
          refine ao_goto 168 dX9_keywordKind_52 (by decide) ?_
          cases h
          exact ao_ireturn dX9_keywordKind_168 rfl rfl ⟨rfl, rfl⟩
      · replace h := ao_ifF h c7
        refine ao_bipush (v := 7) dX9_keywordKind_36 (by decide) ?_
        refine ao_goto 168 dX9_keywordKind_38 (by decide) ?_
        cases h
        exact ao_ireturn dX9_keywordKind_168 rfl rfl ⟨rfl, rfl⟩
    · replace h := ao_ifF h c5
      refine ao_bipush (v := 6) dX9_keywordKind_22 (by decide) ?_
      refine ao_goto 168 dX9_keywordKind_24 (by decide) ?_
      cases h
      exact ao_ireturn dX9_keywordKind_168 rfl rfl ⟨rfl, rfl⟩
  · replace h := ao_ifF h c3
    refine ao_iconst (v := 5) dX9_keywordKind_9 (by decide) ?_
    refine ao_goto 168 dX9_keywordKind_10 (by decide) ?_
    cases h
    exact ao_ireturn dX9_keywordKind_168 rfl rfl ⟨rfl, rfl⟩

abbrev uX9_signKind : ao_Mi := (yX9_signKind, cX9_signKind, 2, (some .int), [])
def gX9_signKind (r0 : Nat) (x1 : Int32) (M : ao_M) (ρ : ao_H) : Option (Int32 × ao_M) :=
  if ρ.2.1 r0 = 19 then
  ao_let (ao_u M r0 2 ((M r0 2) + (1 : Int32))) fun M2 =>
  if x1 = (40 : Int32) then
    some ((19 : Int32), M2)
  else
    if x1 = (41 : Int32) then
      some ((20 : Int32), M2)
    else
      if x1 = (42 : Int32) then
        some ((27 : Int32), M2)
      else
        if x1 = (43 : Int32) then
          some ((25 : Int32), M2)
        else
          if x1 = (45 : Int32) then
            some ((26 : Int32), M2)
          else
            if x1 = (59 : Int32) then
              some ((21 : Int32), M2)
            else
              if x1 = (60 : Int32) then
                some ((24 : Int32), M2)
              else
                if x1 = (61 : Int32) then
                  (gX9_equalsKind r0 M2 ρ).bind fun p11 =>
                  some (p11.1, p11.2)
                else
                  if x1 = (123 : Int32) then
                    some ((17 : Int32), M2)
                  else
                    if x1 = (125 : Int32) then
                      some ((18 : Int32), M2)
                    else
                      some ((1 : Int32), M2)
  else none
set_option maxRecDepth 100000 in
set_option maxHeartbeats 4000000 in
theorem aX9_signKind {Γ : ao_C} (d : Nat) (hd : 2 ≤ d) (r0 : Nat) (x1 : Int32) (M : ao_M) (ρ : ao_H) {y : Int32 × ao_M} (h : gX9_signKind r0 x1 M ρ = some y) : ao_A Γ uX9_signKind d 0 0 [.ref (Γ.2.2.2 + r0), .int x1] (M, ρ) (ao_PI ρ y) := by
  refine ao_of (by decide) (ao_cat1 (Nat.le_of_ble_eq_true rfl)) (Nat.le_of_ble_eq_true rfl) ?_
  show ao_W Γ uX9_signKind (ao_rm d 0 0) (ao_Q Γ (ao_PI ρ y) 0 0) 0 0 0 [some (.ref (Γ.2.2.2 + r0)), some (.int x1)] [] (M, ρ)
  unfold gX9_signKind at h
  refine ao_aload_n 0 dX9_signKind_0 rfl rfl ?_
  refine ao_dup dX9_signKind_1 rfl ?_
  obtain ⟨hk1, h⟩ := ao_some h
  refine an_getI r0 9 2 (q := (RX9, TX9, 11)) dX9_signKind_2 rfl hk1 (Nat.le_of_ble_eq_true rfl) rfl lf_X9_29 ?_
  refine ao_iconst (v := 1) dX9_signKind_5 (by decide) ?_
  refine ao_iadd dX9_signKind_6 ?_
  refine an_putI r0 9 2 (q := (RX9, TX9, 11)) dX9_signKind_7 rfl hk1 (Nat.le_of_ble_eq_true rfl) lf_X9_29 rfl rfl rfl rfl (fun M2 hM2 => ?_)
  replace h := ao_letD h hM2
  refine ao_iload_n 1 dX9_signKind_10 rfl rfl ?_
  by_cases c3 : x1 = (40 : Int32)
  · replace h := ao_ifT h c3
    refine ao_lookup 106 dX9_signKind_11 (by decide) (by rw [c3] <;> rfl) (by decide) ?_
    refine ao_bipush (v := 19) dX9_signKind_106 (by decide) ?_
    cases h
    exact ao_ireturn dX9_signKind_108 rfl rfl ⟨rfl, rfl⟩
  · replace h := ao_ifF h c3
    by_cases c4 : x1 = (41 : Int32)
    · replace h := ao_ifT h c4
      refine ao_lookup 109 dX9_signKind_11 (by decide) (by rw [c4] <;> rfl) (by decide) ?_
      refine ao_bipush (v := 20) dX9_signKind_109 (by decide) ?_
      cases h
      exact ao_ireturn dX9_signKind_111 rfl rfl ⟨rfl, rfl⟩
    · replace h := ao_ifF h c4
      by_cases c5 : x1 = (42 : Int32)
      · replace h := ao_ifT h c5
        refine ao_lookup 124 dX9_signKind_11 (by decide) (by rw [c5] <;> rfl) (by decide) ?_
        refine ao_bipush (v := 27) dX9_signKind_124 (by decide) ?_
        cases h
        exact ao_ireturn dX9_signKind_126 rfl rfl ⟨rfl, rfl⟩
      · replace h := ao_ifF h c5
        by_cases c6 : x1 = (43 : Int32)
        · replace h := ao_ifT h c6
          refine ao_lookup 118 dX9_signKind_11 (by decide) (by rw [c6] <;> rfl) (by decide) ?_
          refine ao_bipush (v := 25) dX9_signKind_118 (by decide) ?_
          cases h
          exact ao_ireturn dX9_signKind_120 rfl rfl ⟨rfl, rfl⟩
        · replace h := ao_ifF h c6
          by_cases c7 : x1 = (45 : Int32)
          · replace h := ao_ifT h c7
            refine ao_lookup 121 dX9_signKind_11 (by decide) (by rw [c7] <;> rfl) (by decide) ?_
            refine ao_bipush (v := 26) dX9_signKind_121 (by decide) ?_
            cases h
            exact ao_ireturn dX9_signKind_123 rfl rfl ⟨rfl, rfl⟩
          · replace h := ao_ifF h c7
            by_cases c8 : x1 = (59 : Int32)
            · replace h := ao_ifT h c8
              refine ao_lookup 112 dX9_signKind_11 (by decide) (by rw [c8] <;> rfl) (by decide) ?_
              refine ao_bipush (v := 21) dX9_signKind_112 (by decide) ?_
              cases h
              exact ao_ireturn dX9_signKind_114 rfl rfl ⟨rfl, rfl⟩
            · replace h := ao_ifF h c8
              by_cases c9 : x1 = (60 : Int32)
              · replace h := ao_ifT h c9
                refine ao_lookup 115 dX9_signKind_11 (by decide) (by rw [c9] <;> rfl) (by decide) ?_
                refine ao_bipush (v := 24) dX9_signKind_115 (by decide) ?_
                cases h
                exact ao_ireturn dX9_signKind_117 rfl rfl ⟨rfl, rfl⟩
              · replace h := ao_ifF h c9
                by_cases c10 : x1 = (61 : Int32)
                · replace h := ao_ifT h c10
                  refine ao_lookup 127 dX9_signKind_11 (by decide) (by rw [c10] <;> rfl) (by decide) ?_
                  refine ao_aload_n 0 dX9_signKind_127 rfl rfl ?_
                  obtain ⟨p11, hp11, h⟩ := ao_bind h
                  refine an_callVi r0 9 (q := (RX9, TX9, 11)) [] (aX9_equalsKind (d - 1) (by omega) r0 M2 ρ hp11) dX9_signKind_128 lc_X9_120 li_X9_equalsKind ls_X9_equalsKind rfl hk1 rfl rfl (Nat.le_of_ble_eq_true rfl) (ao_hR (by omega) (by decide)) ?_
                  cases h
                  exact ao_ireturn dX9_signKind_131 rfl rfl ⟨rfl, rfl⟩
                · replace h := ao_ifF h c10
                  by_cases c12 : x1 = (123 : Int32)
                  · replace h := ao_ifT h c12
                    refine ao_lookup 100 dX9_signKind_11 (by decide) (by rw [c12] <;> rfl) (by decide) ?_
                    refine ao_bipush (v := 17) dX9_signKind_100 (by decide) ?_
                    cases h
                    exact ao_ireturn dX9_signKind_102 rfl rfl ⟨rfl, rfl⟩
                  · replace h := ao_ifF h c12
                    by_cases c13 : x1 = (125 : Int32)
                    · replace h := ao_ifT h c13
                      refine ao_lookup 103 dX9_signKind_11 (by decide) (by rw [c13] <;> rfl) (by decide) ?_
                      refine ao_bipush (v := 18) dX9_signKind_103 (by decide) ?_
                      cases h
                      exact ao_ireturn dX9_signKind_105 rfl rfl ⟨rfl, rfl⟩
                    · replace h := ao_ifF h c13
                      have nc3 := ao_ne (z := 40) c3 (by decide)
                      have nc4 := ao_ne (z := 41) c4 (by decide)
                      have nc5 := ao_ne (z := 42) c5 (by decide)
                      have nc6 := ao_ne (z := 43) c6 (by decide)
                      have nc7 := ao_ne (z := 45) c7 (by decide)
                      have nc8 := ao_ne (z := 59) c8 (by decide)
                      have nc9 := ao_ne (z := 60) c9 (by decide)
                      have nc10 := ao_ne (z := 61) c10 (by decide)
                      have nc12 := ao_ne (z := 123) c12 (by decide)
                      have nc13 := ao_ne (z := 125) c13 (by decide)
                      refine ao_lookup 132 dX9_signKind_11 (by decide) (off := 121) (by simp [Op.lookupswitch.offset, nc3, Ne.symm nc3, nc4, Ne.symm nc4, nc5, Ne.symm nc5, nc6, Ne.symm nc6, nc7, Ne.symm nc7, nc8, Ne.symm nc8, nc9, Ne.symm nc9, nc10, Ne.symm nc10, nc12, Ne.symm nc12, nc13, Ne.symm nc13]) (by decide) ?_
                      refine ao_iconst (v := 1) dX9_signKind_132 (by decide) ?_
                      cases h
                      exact ao_ireturn dX9_signKind_133 rfl rfl ⟨rfl, rfl⟩

abbrev uX10_feed : ao_Mi := (yX10_feed, cX10_feed, 6, (some .int), [])
def fX10_feed : Nat → Nat → Nat → Int32 → Int32 → Int32 → Int32 → Int32 →  ao_M → ao_H → Option ((Int32 ⊕ String) × ao_S)
  | 0, _, _, _, _, _, _, _, _, _ => none
  | n + 1, pc, r0, x1, x2, x3, x4, x5, M, ρ =>
    if pc = 0 then
      if ρ.2.1 r0 = 20 then
      if (M r0 4) ≤ (980 : Int32) then
        (gX10_addToTape n r0 x1 M ρ).bind fun p3 =>
        (gX10_addToTape n r0 x2 p3 ρ).bind fun p4 =>
        (gX10_addToTape n r0 x3 p4 ρ).bind fun p5 =>
        (gX10_addToTape n r0 x4 p5 ρ).bind fun p6 =>
        (gX10_addToTape n r0 x5 p6 ρ).bind fun p7 =>
        some (.inl (p7 r0 4), p7, ρ)
      else
        some (.inr "java/lang/IndexOutOfBoundsException", M, ao_th ρ)
      else none
    else none
def gX10_feed (n : Nat) (r0 : Nat) (x1 : Int32) (x2 : Int32) (x3 : Int32) (x4 : Int32) (x5 : Int32) (M : ao_M) (ρ : ao_H) : Option ((Int32 ⊕ String) × ao_S) := fX10_feed n 0 r0 x1 x2 x3 x4 x5 M ρ
set_option maxRecDepth 100000 in
set_option maxHeartbeats 4000000 in
theorem mX10_feed : ∀ n : Nat, (∀ (r0 : Nat) (x1 : Int32) (x2 : Int32) (x3 : Int32) (x4 : Int32) (x5 : Int32) (M : ao_M) (ρ : ao_H) (y : (Int32 ⊕ String) × ao_S), fX10_feed n 0 r0 x1 x2 x3 x4 x5 M ρ = some y → ao_le ρ y.2.2) := by
  intro n
  induction n with
  | zero => exact fun _ _ _ _ _ _ _ _ _ h => ao_no h
  | succ n ih =>
    · intro r0 x1 x2 x3 x4 x5 M ρ y h
      rw [fX10_feed.eq_2] at h
      replace h := ao_ifT h rfl
      obtain ⟨-, h⟩ := ao_some h
      rcases ao_ifC h with h | h
      · obtain ⟨p3, hp3, h⟩ := ao_bind h
        obtain ⟨p4, hp4, h⟩ := ao_bind h
        obtain ⟨p5, hp5, h⟩ := ao_bind h
        obtain ⟨p6, hp6, h⟩ := ao_bind h
        obtain ⟨p7, hp7, h⟩ := ao_bind h
        cases h
        exact ao_le_rf _
      · cases h
        exact ao_le_th _
set_option maxRecDepth 100000 in
set_option maxHeartbeats 4000000 in
theorem wX10_feed {Γ : ao_C} (d : Nat) (hd : 8 ≤ d) (MC MS : Nat) : ∀ n : Nat, (∀ (r0 : Nat) (x1 : Int32) (x2 : Int32) (x3 : Int32) (x4 : Int32) (x5 : Int32) (M : ao_M) (ρ : ao_H) (y : (Int32 ⊕ String) × ao_S), fX10_feed n 0 r0 x1 x2 x3 x4 x5 M ρ = some y → ao_W Γ uX10_feed (ao_rm d MC MS) (ao_Q Γ (ao_ZI y) MC MS) (ao_dc ρ y.2.2) (ao_ds ρ y.2.2) 0 [some (.ref (Γ.2.2.2 + r0)), some (.int x1), some (.int x2), some (.int x3), some (.int x4), some (.int x5)] [] (M, ρ)) := by
  intro n
  induction n with
  | zero => exact fun _ _ _ _ _ _ _ _ _ h => ao_no h
  | succ n ih =>
    · intro r0 x1 x2 x3 x4 x5 M ρ y h
      rw [fX10_feed.eq_2] at h
      replace h := ao_ifT h rfl
      refine ao_aload_n 0 dX10_feed_0 rfl rfl ?_
      obtain ⟨hk1, h⟩ := ao_some h
      refine an_getI r0 10 4 (q := (RX10, TX10, 6)) dX10_feed_1 rfl hk1 (Nat.le_of_ble_eq_true rfl) rfl lf_X10_34 ?_
      refine ao_sipush (v := 980) dX10_feed_4 (by decide) ?_
      refine ao_icmp_le 20 dX10_feed_7 (by decide) (fun c2 => ?_) (fun c2 => ?_)
      · replace h := ao_ifT h c2
        refine ao_aload_n 0 dX10_feed_20 rfl rfl ?_
        refine ao_iload_n 1 dX10_feed_21 rfl rfl ?_
        obtain ⟨p3, hp3, h⟩ := ao_bind h
        refine an_callVv r0 10 (q := (RX10, TX10, 6)) [.int x1] (aX10_addToTape (d - 1) (by omega) _ r0 x1 M ρ hp3) dX10_feed_22 lc_X10_48 li_X10_addToTape ls_X10_addToTape rfl hk1 rfl rfl (Nat.le_of_ble_eq_true rfl) (ao_hR (by omega) (by decide)) ?_
        refine ao_aload_n 0 dX10_feed_25 rfl rfl ?_
        refine ao_iload_n 2 dX10_feed_26 rfl rfl ?_
        obtain ⟨p4, hp4, h⟩ := ao_bind h
        refine an_callVv r0 10 (q := (RX10, TX10, 6)) [.int x2] (aX10_addToTape (d - 1) (by omega) _ r0 x2 p3 ρ hp4) dX10_feed_27 lc_X10_48 li_X10_addToTape ls_X10_addToTape rfl hk1 rfl rfl (Nat.le_of_ble_eq_true rfl) (ao_hR (by omega) (by decide)) ?_
        refine ao_aload_n 0 dX10_feed_30 rfl rfl ?_
        refine ao_iload_n 3 dX10_feed_31 rfl rfl ?_
        obtain ⟨p5, hp5, h⟩ := ao_bind h
        refine an_callVv r0 10 (q := (RX10, TX10, 6)) [.int x3] (aX10_addToTape (d - 1) (by omega) _ r0 x3 p4 ρ hp5) dX10_feed_32 lc_X10_48 li_X10_addToTape ls_X10_addToTape rfl hk1 rfl rfl (Nat.le_of_ble_eq_true rfl) (ao_hR (by omega) (by decide)) ?_
        refine ao_aload_n 0 dX10_feed_35 rfl rfl ?_
        refine ao_iload 4 dX10_feed_36 rfl ?_
        obtain ⟨p6, hp6, h⟩ := ao_bind h
        refine an_callVv r0 10 (q := (RX10, TX10, 6)) [.int x4] (aX10_addToTape (d - 1) (by omega) _ r0 x4 p5 ρ hp6) dX10_feed_38 lc_X10_48 li_X10_addToTape ls_X10_addToTape rfl hk1 rfl rfl (Nat.le_of_ble_eq_true rfl) (ao_hR (by omega) (by decide)) ?_
        refine ao_aload_n 0 dX10_feed_41 rfl rfl ?_
        refine ao_iload 5 dX10_feed_42 rfl ?_
        obtain ⟨p7, hp7, h⟩ := ao_bind h
        refine an_callVv r0 10 (q := (RX10, TX10, 6)) [.int x5] (aX10_addToTape (d - 1) (by omega) _ r0 x5 p6 ρ hp7) dX10_feed_44 lc_X10_48 li_X10_addToTape ls_X10_addToTape rfl hk1 rfl rfl (Nat.le_of_ble_eq_true rfl) (ao_hR (by omega) (by decide)) ?_
        refine ao_aload_n 0 dX10_feed_47 rfl rfl ?_
        refine an_getI r0 10 4 (q := (RX10, TX10, 6)) dX10_feed_48 rfl hk1 (Nat.le_of_ble_eq_true rfl) rfl lf_X10_34 ?_
        cases h
        exact ao_ireturn dX10_feed_51 rfl rfl ⟨rfl, rfl⟩
      · replace h := ao_ifF h c2
        cases h
        exact cx_throwS "java/lang/IndexOutOfBoundsException" "the tape has no room" ["java/lang/RuntimeException", "java/lang/Exception"] lth_X10_43 rfl dX10_feed_10 dX10_feed_13 dX10_feed_14 dX10_feed_16 dX10_feed_19 (by omega) (Nat.le_of_ble_eq_true rfl) ao_thM ⟨rfl, rfl⟩
theorem me_X10_feed (n : Nat) (r0 : Nat) (x1 : Int32) (x2 : Int32) (x3 : Int32) (x4 : Int32) (x5 : Int32) (M : ao_M) (ρ : ao_H) {y : (Int32 ⊕ String) × ao_S} (h : gX10_feed n r0 x1 x2 x3 x4 x5 M ρ = some y) : ao_le ρ y.2.2 := (mX10_feed n) r0 x1 x2 x3 x4 x5 M ρ y h
set_option maxRecDepth 100000 in
set_option maxHeartbeats 4000000 in
theorem aX10_feed {Γ : ao_C} (d : Nat) (hd : 8 ≤ d) (n : Nat) (r0 : Nat) (x1 : Int32) (x2 : Int32) (x3 : Int32) (x4 : Int32) (x5 : Int32) (M : ao_M) (ρ : ao_H) {y : (Int32 ⊕ String) × ao_S} (h : gX10_feed n r0 x1 x2 x3 x4 x5 M ρ = some y) : ao_A Γ uX10_feed d (ao_dc ρ y.2.2) (ao_ds ρ y.2.2) [.ref (Γ.2.2.2 + r0), .int x1, .int x2, .int x3, .int x4, .int x5] (M, ρ) (ao_ZI y) := by
  refine ao_of (by decide) (ao_cat1 (Nat.le_of_ble_eq_true rfl)) (Nat.le_of_ble_eq_true rfl) ?_
  show ao_W Γ uX10_feed (ao_rm d (ao_dc ρ y.2.2) (ao_ds ρ y.2.2)) (ao_Q Γ (ao_ZI y) (ao_dc ρ y.2.2) (ao_ds ρ y.2.2)) (ao_dc ρ y.2.2) (ao_ds ρ y.2.2) 0 [some (.ref (Γ.2.2.2 + r0)), some (.int x1), some (.int x2), some (.int x3), some (.int x4), some (.int x5)] [] (M, ρ)
  exact (wX10_feed d hd _ _ n) r0 x1 x2 x3 x4 x5 M ρ y h

abbrev uX10_put : ao_Mi := (yX10_put, cX10_put, 4, (some .int), [])
def fX10_put : Nat → Nat → Nat → Int32 → Int32 → Nat →  ao_M → ao_H → Option ((Int32 ⊕ String) × ao_S)
  | 0, _, _, _, _, _, _, _ => none
  | n + 1, pc, r0, x1, x2, r3, M, ρ =>
    if pc = 0 then
      if x1 < 0 then
        fX10_put n 10 r0 x1 x2 0 M ρ
      else
        if x1 < (26 : Int32) then
          if ρ.2.1 r0 = 20 then
          (ρ.1 r0 2).bind fun j4 =>
          if ρ.2.1 j4 = 12 then
          (ρ.1 j4 0).bind fun j6 =>
          if ρ.2.1 j6 = 15 then
          (ρ.1 j6 2).bind fun j8 =>
          if ρ.2.1 j8 = 0 then
          if ¬ (x1 < 0 ∨ ρ.2.2.1 j8 ≤ x1.toNatClampNeg) then
          if (M j8 x1.toNatClampNeg) = (-1 : Int32) then
            ao_let (ao_u M j6 4 ((M j6 4) + (1 : Int32))) fun M12 =>
            (gX5_change n j6 x1 x2 M12 ρ).bind fun p13 =>
            fX10_put n 64 r0 x1 x2 j6 p13.1 p13.2
          else
            some (.inr "java/lang/IllegalStateException", M, ao_th ρ)
          else none
          else none
          else none
          else none
          else none
        else
          fX10_put n 10 r0 x1 x2 0 M ρ
    else if pc = 10 then
      some (.inr "java/lang/IllegalArgumentException", M, ao_th ρ)
    else if pc = 64 then
      if ρ.2.1 r3 = 15 then
      (ρ.1 r3 3).bind fun j15 =>
      if ρ.2.1 j15 = 0 then
      if ¬ (x1 < 0 ∨ ρ.2.2.1 j15 ≤ x1.toNatClampNeg) then
      ao_let (ao_u M j15 x1.toNatClampNeg x2) fun M18 =>
      some (.inl (M18 r3 4), M18, ρ)
      else none
      else none
      else none
    else none
def gX10_put (n : Nat) (r0 : Nat) (x1 : Int32) (x2 : Int32) (M : ao_M) (ρ : ao_H) : Option ((Int32 ⊕ String) × ao_S) := fX10_put n 0 r0 x1 x2 0 M ρ
set_option maxRecDepth 100000 in
set_option maxHeartbeats 4000000 in
theorem mX10_put : ∀ n : Nat, (∀ (r0 : Nat) (x1 : Int32) (x2 : Int32) (M : ao_M) (ρ : ao_H) (y : (Int32 ⊕ String) × ao_S), fX10_put n 0 r0 x1 x2 0 M ρ = some y → ao_le ρ y.2.2) ∧ (∀ (r0 : Nat) (x1 : Int32) (x2 : Int32) (M : ao_M) (ρ : ao_H) (y : (Int32 ⊕ String) × ao_S), fX10_put n 10 r0 x1 x2 0 M ρ = some y → ao_le ρ y.2.2) ∧ (∀ (r0 : Nat) (x1 : Int32) (x2 : Int32) (r3 : Nat) (M : ao_M) (ρ : ao_H) (y : (Int32 ⊕ String) × ao_S), fX10_put n 64 r0 x1 x2 r3 M ρ = some y → ao_le ρ y.2.2) := by
  intro n
  induction n with
  | zero => exact ⟨fun _ _ _ _ _ _ h => ao_no h, fun _ _ _ _ _ _ h => ao_no h, fun _ _ _ _ _ _ _ h => ao_no h⟩
  | succ n ih =>
    refine ⟨?_, ?_, ?_⟩
    · intro r0 x1 x2 M ρ y h
      replace h := ao_ifT h rfl
      rcases ao_ifC h with h | h
      · exact ih.2.1 r0 x1 x2 M ρ _ h
      · rcases ao_ifC h with h | h
        · obtain ⟨-, h⟩ := ao_some h
          obtain ⟨j4, hj4, h⟩ := ao_bind h
          obtain ⟨-, h⟩ := ao_some h
          obtain ⟨j6, hj6, h⟩ := ao_bind h
          obtain ⟨-, h⟩ := ao_some h
          obtain ⟨j8, hj8, h⟩ := ao_bind h
          obtain ⟨-, h⟩ := ao_some h
          obtain ⟨-, h⟩ := ao_some h
          rcases ao_ifC h with h | h
          · replace h := ao_letD h rfl
            generalize (ao_u M j6 4 ((M j6 4) + (1 : Int32))) = M12 at h
            obtain ⟨p13, hp13, h⟩ := ao_bind h
            exact ao_le_tr (me_X5_change n j6 x1 x2 M12 ρ hp13) (ih.2.2 r0 x1 x2 j6 p13.1 p13.2 _ h)
          · cases h
            exact ao_le_th _
        · exact ih.2.1 r0 x1 x2 M ρ _ h
    · intro r0 x1 x2 M ρ y h
      replace h := ao_ifF h (by decide)
      replace h := ao_ifT h rfl
      cases h
      exact ao_le_th _
    · intro r0 x1 x2 r3 M ρ y h
      replace h := ao_ifF h (by decide)
      replace h := ao_ifF h (by decide)
      replace h := ao_ifT h rfl
      obtain ⟨-, h⟩ := ao_some h
      obtain ⟨j15, hj15, h⟩ := ao_bind h
      obtain ⟨-, h⟩ := ao_some h
      obtain ⟨-, h⟩ := ao_some h
      replace h := ao_letD h rfl
      generalize (ao_u M j15 x1.toNatClampNeg x2) = M18 at h
      cases h
      exact ao_le_rf _
set_option maxRecDepth 100000 in
set_option maxHeartbeats 4000000 in
theorem wX10_put {Γ : ao_C} (d : Nat) (hd : 8 ≤ d) (MC MS : Nat) : ∀ n : Nat, (∀ (r0 : Nat) (x1 : Int32) (x2 : Int32) (M : ao_M) (ρ : ao_H) (y : (Int32 ⊕ String) × ao_S), fX10_put n 0 r0 x1 x2 0 M ρ = some y → ao_W Γ uX10_put (ao_rm d MC MS) (ao_Q Γ (ao_ZI y) MC MS) (ao_dc ρ y.2.2) (ao_ds ρ y.2.2) 0 [some (.ref (Γ.2.2.2 + r0)), some (.int x1), some (.int x2), none] [] (M, ρ)) ∧ (∀ (r0 : Nat) (x1 : Int32) (x2 : Int32) (M : ao_M) (ρ : ao_H) (y : (Int32 ⊕ String) × ao_S), fX10_put n 10 r0 x1 x2 0 M ρ = some y → ao_W Γ uX10_put (ao_rm d MC MS) (ao_Q Γ (ao_ZI y) MC MS) (ao_dc ρ y.2.2) (ao_ds ρ y.2.2) 10 [some (.ref (Γ.2.2.2 + r0)), some (.int x1), some (.int x2), none] [] (M, ρ)) ∧ (∀ (r0 : Nat) (x1 : Int32) (x2 : Int32) (r3 : Nat) (M : ao_M) (ρ : ao_H) (y : (Int32 ⊕ String) × ao_S), fX10_put n 64 r0 x1 x2 r3 M ρ = some y → ao_W Γ uX10_put (ao_rm d MC MS) (ao_Q Γ (ao_ZI y) MC MS) (ao_dc ρ y.2.2) (ao_ds ρ y.2.2) 64 [some (.ref (Γ.2.2.2 + r0)), some (.int x1), some (.int x2), some (.ref (Γ.2.2.2 + r3))] [] (M, ρ)) := by
  intro n
  induction n with
  | zero => exact ⟨fun _ _ _ _ _ _ h => ao_no h, fun _ _ _ _ _ _ h => ao_no h, fun _ _ _ _ _ _ _ h => ao_no h⟩
  | succ n ih =>
    refine ⟨?_, ?_, ?_⟩
    · intro r0 x1 x2 M ρ y h
      replace h := ao_ifT h rfl
      refine ao_iload_n 1 dX10_put_0 rfl rfl ?_
      refine ao_if_lt 10 dX10_put_1 (by decide) (fun c1 => ?_) (fun c1 => ?_)
      · replace h := ao_ifT h c1
        exact ih.2.1 r0 x1 x2 M ρ _ h
      · replace h := ao_ifF h c1
        refine ao_iload_n 1 dX10_put_4 rfl rfl ?_
        refine ao_bipush (v := 26) dX10_put_5 (by decide) ?_
        refine ao_icmp_lt 20 dX10_put_7 (by decide) (fun c2 => ?_) (fun c2 => ?_)
        · replace h := ao_ifT h c2
          refine ao_aload_n 0 dX10_put_20 rfl rfl ?_
          obtain ⟨hk3, h⟩ := ao_some h
          obtain ⟨j4, hj4, h⟩ := ao_bind h
          refine an_getR r0 10 2 (q := (RX10, TX10, 6)) dX10_put_21 rfl hk3 (Nat.le_of_ble_eq_true rfl) rfl lf_X10_23 hj4 ?_
          obtain ⟨hk5, h⟩ := ao_some h
          obtain ⟨j6, hj6, h⟩ := ao_bind h
          refine an_getR j4 2 0 (q := (RX2, TX2, 7)) dX10_put_24 rfl hk5 (Nat.le_of_ble_eq_true rfl) rfl lf_X10_110 hj6 ?_
          refine ao_astore_n 3 (lo' := [some (.ref (Γ.2.2.2 + r0)), some (.int x1), some (.int x2), some (.ref (Γ.2.2.2 + j6))]) dX10_put_27 rfl (Nat.le_of_ble_eq_true rfl) rfl ?_
          refine ao_aload_n 3 dX10_put_28 rfl rfl ?_
          obtain ⟨hk7, h⟩ := ao_some h
          obtain ⟨j8, hj8, h⟩ := ao_bind h
          refine an_getR j6 5 2 (q := (RX5, TX5, 11)) dX10_put_29 rfl hk7 (Nat.le_of_ble_eq_true rfl) rfl lf_X10_114 hj8 ?_
          refine ao_iload_n 1 dX10_put_32 rfl rfl ?_
          obtain ⟨hk9, h⟩ := ao_some h
          obtain ⟨hb10, h⟩ := ao_some h
          refine an_iaload j8 dX10_put_33 hk9 hb10 ?_
          refine ao_iconst (v := (-1)) dX10_put_34 (by decide) ?_
          refine ao_icmp_eq 48 dX10_put_35 (by decide) (fun c11 => ?_) (fun c11 => ?_)
          · replace h := ao_ifT h c11
            refine ao_aload_n 3 dX10_put_48 rfl rfl ?_
            refine ao_dup dX10_put_49 rfl ?_
            refine an_getI j6 5 4 (q := (RX5, TX5, 11)) dX10_put_50 rfl hk7 (Nat.le_of_ble_eq_true rfl) rfl lf_X10_122 ?_
            refine ao_iconst (v := 1) dX10_put_53 (by decide) ?_
            refine ao_iadd dX10_put_54 ?_
            refine an_putI j6 5 4 (q := (RX5, TX5, 11)) dX10_put_55 rfl hk7 (Nat.le_of_ble_eq_true rfl) lf_X10_122 rfl rfl rfl rfl (fun M12 hM12 => ?_)
            replace h := ao_letD h hM12
            refine ao_aload_n 3 dX10_put_58 rfl rfl ?_
            refine ao_iload_n 1 dX10_put_59 rfl rfl ?_
            refine ao_iload_n 2 dX10_put_60 rfl rfl ?_
            obtain ⟨p13, hp13, h⟩ := ao_bind h
            refine ba_callVv j6 5 (q := (RX5, TX5, 11)) [.int x1, .int x2] (aX5_change (d - 1) (by omega) n j6 x1 x2 M12 ρ hp13) dX10_put_61 lc_X10_125 li_X5_change ls_X5_change rfl hk7 rfl rfl (Nat.le_of_ble_eq_true rfl) (ao_hR (by omega) (by decide)) (ao_leC (me_X5_change n j6 x1 x2 M12 ρ hp13) ((mX10_put n).2.2 r0 x1 x2 j6 p13.1 p13.2 _ h)) (ao_leS (me_X5_change n j6 x1 x2 M12 ρ hp13) ((mX10_put n).2.2 r0 x1 x2 j6 p13.1 p13.2 _ h)) ?_
            exact ih.2.2 r0 x1 x2 j6 p13.1 p13.2 _ h
          · replace h := ao_ifF h c11
            cases h
            exact cx_throwS "java/lang/IllegalStateException" "the place is taken" ["java/lang/RuntimeException", "java/lang/Exception"] lth_X10_120 rfl dX10_put_38 dX10_put_41 dX10_put_42 dX10_put_44 dX10_put_47 (by omega) (Nat.le_of_ble_eq_true rfl) ao_thM ⟨rfl, rfl⟩
        · replace h := ao_ifF h c2
          exact ih.2.1 r0 x1 x2 M ρ _ h
    · intro r0 x1 x2 M ρ y h
      replace h := ao_ifF h (by decide)
      replace h := ao_ifT h rfl
      cases h
      exact cx_throwS "java/lang/IllegalArgumentException" "not a place" ["java/lang/RuntimeException", "java/lang/Exception"] lth_X10_108 rfl dX10_put_10 dX10_put_13 dX10_put_14 dX10_put_16 dX10_put_19 (by omega) (Nat.le_of_ble_eq_true rfl) ao_thM ⟨rfl, rfl⟩
    · intro r0 x1 x2 r3 M ρ y h
      replace h := ao_ifF h (by decide)
      replace h := ao_ifF h (by decide)
      replace h := ao_ifT h rfl
      refine ao_aload_n 3 dX10_put_64 rfl rfl ?_
      obtain ⟨hk14, h⟩ := ao_some h
      obtain ⟨j15, hj15, h⟩ := ao_bind h
      refine an_getR r3 5 3 (q := (RX5, TX5, 11)) dX10_put_65 rfl hk14 (Nat.le_of_ble_eq_true rfl) rfl lf_X10_129 hj15 ?_
      refine ao_iload_n 1 dX10_put_68 rfl rfl ?_
      refine ao_iload_n 2 dX10_put_69 rfl rfl ?_
      obtain ⟨hk16, h⟩ := ao_some h
      obtain ⟨hb17, h⟩ := ao_some h
      refine an_iastore j15 dX10_put_70 hk16 hb17 (fun M18 hM18 => ?_)
      replace h := ao_letD h hM18
      refine ao_aload_n 3 dX10_put_71 rfl rfl ?_
      refine an_getI r3 5 4 (q := (RX5, TX5, 11)) dX10_put_72 rfl hk14 (Nat.le_of_ble_eq_true rfl) rfl lf_X10_122 ?_
      cases h
      exact ao_ireturn dX10_put_75 rfl rfl ⟨rfl, rfl⟩
theorem me_X10_put (n : Nat) (r0 : Nat) (x1 : Int32) (x2 : Int32) (M : ao_M) (ρ : ao_H) {y : (Int32 ⊕ String) × ao_S} (h : gX10_put n r0 x1 x2 M ρ = some y) : ao_le ρ y.2.2 := (mX10_put n).1 r0 x1 x2 M ρ y h
set_option maxRecDepth 100000 in
set_option maxHeartbeats 4000000 in
theorem aX10_put {Γ : ao_C} (d : Nat) (hd : 8 ≤ d) (n : Nat) (r0 : Nat) (x1 : Int32) (x2 : Int32) (M : ao_M) (ρ : ao_H) {y : (Int32 ⊕ String) × ao_S} (h : gX10_put n r0 x1 x2 M ρ = some y) : ao_A Γ uX10_put d (ao_dc ρ y.2.2) (ao_ds ρ y.2.2) [.ref (Γ.2.2.2 + r0), .int x1, .int x2] (M, ρ) (ao_ZI y) := by
  refine ao_of (by decide) (ao_cat1 (Nat.le_of_ble_eq_true rfl)) (Nat.le_of_ble_eq_true rfl) ?_
  show ao_W Γ uX10_put (ao_rm d (ao_dc ρ y.2.2) (ao_ds ρ y.2.2)) (ao_Q Γ (ao_ZI y) (ao_dc ρ y.2.2) (ao_ds ρ y.2.2)) (ao_dc ρ y.2.2) (ao_ds ρ y.2.2) 0 [some (.ref (Γ.2.2.2 + r0)), some (.int x1), some (.int x2), none] [] (M, ρ)
  exact (wX10_put d hd _ _ n).1 r0 x1 x2 M ρ y h

abbrev uX10_look : ao_Mi := (yX10_look, cX10_look, 3, (some .int), [])
def fX10_look : Nat → Nat → Nat → Int32 → Int32 →  ao_M → ao_H → Option ((Int32 ⊕ String) × ao_S)
  | 0, _, _, _, _, _, _ => none
  | n + 1, pc, r0, x1, x2, M, ρ =>
    if pc = 0 then
      if x1 < 0 then
        fX10_look n 20 r0 x1 x2 M ρ
      else
        if (6 : Int32) ≤ x1 then
          fX10_look n 20 r0 x1 x2 M ρ
        else
          if x2 < 0 then
            fX10_look n 20 r0 x1 x2 M ρ
          else
            if x2 ≤ (7 : Int32) then
              if ρ.2.1 r0 = 20 then
              (ρ.1 r0 2).bind fun j6 =>
              if ρ.2.1 j6 = 12 then
              (ρ.1 j6 1).bind fun j8 =>
              if ρ.2.1 j8 = 4 then
              if ¬ (x1 < 0 ∨ ρ.2.2.1 j8 ≤ x1.toNatClampNeg) then
              (ρ.1 j8 x1.toNatClampNeg).bind fun j11 =>
              if ρ.2.1 j11 = 17 then
              (gX7_tellOf n j11 x2 M ρ).bind fun p13 =>
              some (.inl p13.1, p13.2, ρ)
              else none
              else none
              else none
              else none
              else none
            else
              fX10_look n 20 r0 x1 x2 M ρ
    else if pc = 20 then
      some (.inr "java/lang/IllegalArgumentException", M, ao_th ρ)
    else none
def gX10_look (n : Nat) (r0 : Nat) (x1 : Int32) (x2 : Int32) (M : ao_M) (ρ : ao_H) : Option ((Int32 ⊕ String) × ao_S) := fX10_look n 0 r0 x1 x2 M ρ
set_option maxRecDepth 100000 in
set_option maxHeartbeats 4000000 in
theorem mX10_look : ∀ n : Nat, (∀ (r0 : Nat) (x1 : Int32) (x2 : Int32) (M : ao_M) (ρ : ao_H) (y : (Int32 ⊕ String) × ao_S), fX10_look n 0 r0 x1 x2 M ρ = some y → ao_le ρ y.2.2) ∧ (∀ (r0 : Nat) (x1 : Int32) (x2 : Int32) (M : ao_M) (ρ : ao_H) (y : (Int32 ⊕ String) × ao_S), fX10_look n 20 r0 x1 x2 M ρ = some y → ao_le ρ y.2.2) := by
  intro n
  induction n with
  | zero => exact ⟨fun _ _ _ _ _ _ h => ao_no h, fun _ _ _ _ _ _ h => ao_no h⟩
  | succ n ih =>
    refine ⟨?_, ?_⟩
    · intro r0 x1 x2 M ρ y h
      replace h := ao_ifT h rfl
      rcases ao_ifC h with h | h
      · exact ih.2 r0 x1 x2 M ρ _ h
      · rcases ao_ifC h with h | h
        · exact ih.2 r0 x1 x2 M ρ _ h
        · rcases ao_ifC h with h | h
          · exact ih.2 r0 x1 x2 M ρ _ h
          · rcases ao_ifC h with h | h
            · obtain ⟨-, h⟩ := ao_some h
              obtain ⟨j6, hj6, h⟩ := ao_bind h
              obtain ⟨-, h⟩ := ao_some h
              obtain ⟨j8, hj8, h⟩ := ao_bind h
              obtain ⟨-, h⟩ := ao_some h
              obtain ⟨-, h⟩ := ao_some h
              obtain ⟨j11, hj11, h⟩ := ao_bind h
              obtain ⟨-, h⟩ := ao_some h
              obtain ⟨p13, hp13, h⟩ := ao_bind h
              cases h
              exact ao_le_rf _
            · exact ih.2 r0 x1 x2 M ρ _ h
    · intro r0 x1 x2 M ρ y h
      replace h := ao_ifF h (by decide)
      replace h := ao_ifT h rfl
      cases h
      exact ao_le_th _
set_option maxRecDepth 100000 in
set_option maxHeartbeats 4000000 in
theorem wX10_look {Γ : ao_C} (d : Nat) (hd : 8 ≤ d) (MC MS : Nat) : ∀ n : Nat, (∀ (r0 : Nat) (x1 : Int32) (x2 : Int32) (M : ao_M) (ρ : ao_H) (y : (Int32 ⊕ String) × ao_S), fX10_look n 0 r0 x1 x2 M ρ = some y → ao_W Γ uX10_look (ao_rm d MC MS) (ao_Q Γ (ao_ZI y) MC MS) (ao_dc ρ y.2.2) (ao_ds ρ y.2.2) 0 [some (.ref (Γ.2.2.2 + r0)), some (.int x1), some (.int x2)] [] (M, ρ)) ∧ (∀ (r0 : Nat) (x1 : Int32) (x2 : Int32) (M : ao_M) (ρ : ao_H) (y : (Int32 ⊕ String) × ao_S), fX10_look n 20 r0 x1 x2 M ρ = some y → ao_W Γ uX10_look (ao_rm d MC MS) (ao_Q Γ (ao_ZI y) MC MS) (ao_dc ρ y.2.2) (ao_ds ρ y.2.2) 20 [some (.ref (Γ.2.2.2 + r0)), some (.int x1), some (.int x2)] [] (M, ρ)) := by
  intro n
  induction n with
  | zero => exact ⟨fun _ _ _ _ _ _ h => ao_no h, fun _ _ _ _ _ _ h => ao_no h⟩
  | succ n ih =>
    refine ⟨?_, ?_⟩
    · intro r0 x1 x2 M ρ y h
      replace h := ao_ifT h rfl
      refine ao_iload_n 1 dX10_look_0 rfl rfl ?_
      refine ao_if_lt 20 dX10_look_1 (by decide) (fun c1 => ?_) (fun c1 => ?_)
      · replace h := ao_ifT h c1
        exact ih.2 r0 x1 x2 M ρ _ h
      · replace h := ao_ifF h c1
        refine ao_iload_n 1 dX10_look_4 rfl rfl ?_
        refine ao_bipush (v := 6) dX10_look_5 (by decide) ?_
        refine ao_icmp_ge 20 dX10_look_7 (by decide) (fun c2 => ?_) (fun c2 => ?_)
        · replace h := ao_ifT h c2
          exact ih.2 r0 x1 x2 M ρ _ h
        · replace h := ao_ifF h c2
          refine ao_iload_n 2 dX10_look_10 rfl rfl ?_
          refine ao_if_lt 20 dX10_look_11 (by decide) (fun c3 => ?_) (fun c3 => ?_)
          · replace h := ao_ifT h c3
            exact ih.2 r0 x1 x2 M ρ _ h
          · replace h := ao_ifF h c3
            refine ao_iload_n 2 dX10_look_14 rfl rfl ?_
            refine ao_bipush (v := 7) dX10_look_15 (by decide) ?_
            refine ao_icmp_le 30 dX10_look_17 (by decide) (fun c4 => ?_) (fun c4 => ?_)
            · replace h := ao_ifT h c4
              refine ao_aload_n 0 dX10_look_30 rfl rfl ?_
              obtain ⟨hk5, h⟩ := ao_some h
              obtain ⟨j6, hj6, h⟩ := ao_bind h
              refine an_getR r0 10 2 (q := (RX10, TX10, 6)) dX10_look_31 rfl hk5 (Nat.le_of_ble_eq_true rfl) rfl lf_X10_23 hj6 ?_
              obtain ⟨hk7, h⟩ := ao_some h
              obtain ⟨j8, hj8, h⟩ := ao_bind h
              refine an_getR j6 2 1 (q := (RX2, TX2, 7)) dX10_look_34 rfl hk7 (Nat.le_of_ble_eq_true rfl) rfl lf_X10_67 hj8 ?_
              refine ao_iload_n 1 dX10_look_37 rfl rfl ?_
              obtain ⟨hk9, h⟩ := ao_some h
              obtain ⟨hb10, h⟩ := ao_some h
              obtain ⟨j11, hj11, h⟩ := ao_bind h
              refine an_aaload j8 4 dX10_look_38 hk9 (by decide) hb10 hj11 ?_
              refine ao_iload_n 2 dX10_look_39 rfl rfl ?_
              obtain ⟨hk12, h⟩ := ao_some h
              obtain ⟨p13, hp13, h⟩ := ao_bind h
              refine an_callVi j11 7 (q := (RX7, TX7, 20)) [.int x2] (aX7_tellOf (d - 1) (by omega) _ j11 x2 M ρ hp13) dX10_look_40 lc_X10_182 li_X7_tellOf ls_X7_tellOf rfl hk12 rfl rfl (Nat.le_of_ble_eq_true rfl) (ao_hR (by omega) (by decide)) ?_
              cases h
              exact ao_ireturn dX10_look_43 rfl rfl ⟨rfl, rfl⟩
            · replace h := ao_ifF h c4
              exact ih.2 r0 x1 x2 M ρ _ h
    · intro r0 x1 x2 M ρ y h
      replace h := ao_ifF h (by decide)
      replace h := ao_ifT h rfl
      cases h
      exact cx_throwS "java/lang/IllegalArgumentException" "not a thread, or nothing to look at" ["java/lang/RuntimeException", "java/lang/Exception"] lth_X10_180 rfl dX10_look_20 dX10_look_23 dX10_look_24 dX10_look_26 dX10_look_29 (by omega) (Nat.le_of_ble_eq_true rfl) ao_thM ⟨rfl, rfl⟩
theorem me_X10_look (n : Nat) (r0 : Nat) (x1 : Int32) (x2 : Int32) (M : ao_M) (ρ : ao_H) {y : (Int32 ⊕ String) × ao_S} (h : gX10_look n r0 x1 x2 M ρ = some y) : ao_le ρ y.2.2 := (mX10_look n).1 r0 x1 x2 M ρ y h
set_option maxRecDepth 100000 in
set_option maxHeartbeats 4000000 in
theorem aX10_look {Γ : ao_C} (d : Nat) (hd : 8 ≤ d) (n : Nat) (r0 : Nat) (x1 : Int32) (x2 : Int32) (M : ao_M) (ρ : ao_H) {y : (Int32 ⊕ String) × ao_S} (h : gX10_look n r0 x1 x2 M ρ = some y) : ao_A Γ uX10_look d (ao_dc ρ y.2.2) (ao_ds ρ y.2.2) [.ref (Γ.2.2.2 + r0), .int x1, .int x2] (M, ρ) (ao_ZI y) := by
  refine ao_of (by decide) (ao_cat1 (Nat.le_of_ble_eq_true rfl)) (Nat.le_of_ble_eq_true rfl) ?_
  show ao_W Γ uX10_look (ao_rm d (ao_dc ρ y.2.2) (ao_ds ρ y.2.2)) (ao_Q Γ (ao_ZI y) (ao_dc ρ y.2.2) (ao_ds ρ y.2.2)) (ao_dc ρ y.2.2) (ao_ds ρ y.2.2) 0 [some (.ref (Γ.2.2.2 + r0)), some (.int x1), some (.int x2)] [] (M, ρ)
  exact (wX10_look d hd _ _ n).1 r0 x1 x2 M ρ y h

abbrev uX10_count : ao_Mi := (yX10_count, cX10_count, 2, (some .int), [])
def fX10_count : Nat → Nat → Nat → Int32 →  ao_M → ao_H → Option ((Int32 ⊕ String) × ao_S)
  | 0, _, _, _, _, _ => none
  | n + 1, pc, r0, x1, M, ρ =>
    if pc = 0 then
      if x1 < 0 then
        fX10_count n 10 r0 x1 M ρ
      else
        if x1 ≤ (8 : Int32) then
          if x1 = 0 then
            if ρ.2.1 r0 = 20 then
            some (.inl (M r0 4), M, ρ)
            else none
          else
            if ρ.2.1 r0 = 20 then
            (ρ.1 r0 2).bind fun j5 =>
            if ρ.2.1 j5 = 12 then
            (gX2_tellOf n j5 x1 M ρ).bind fun p7 =>
            some (.inl p7.1, p7.2, ρ)
            else none
            else none
        else
          fX10_count n 10 r0 x1 M ρ
    else if pc = 10 then
      some (.inr "java/lang/IllegalArgumentException", M, ao_th ρ)
    else none
def gX10_count (n : Nat) (r0 : Nat) (x1 : Int32) (M : ao_M) (ρ : ao_H) : Option ((Int32 ⊕ String) × ao_S) := fX10_count n 0 r0 x1 M ρ
set_option maxRecDepth 100000 in
set_option maxHeartbeats 4000000 in
theorem mX10_count : ∀ n : Nat, (∀ (r0 : Nat) (x1 : Int32) (M : ao_M) (ρ : ao_H) (y : (Int32 ⊕ String) × ao_S), fX10_count n 0 r0 x1 M ρ = some y → ao_le ρ y.2.2) ∧ (∀ (r0 : Nat) (x1 : Int32) (M : ao_M) (ρ : ao_H) (y : (Int32 ⊕ String) × ao_S), fX10_count n 10 r0 x1 M ρ = some y → ao_le ρ y.2.2) := by
  intro n
  induction n with
  | zero => exact ⟨fun _ _ _ _ _ h => ao_no h, fun _ _ _ _ _ h => ao_no h⟩
  | succ n ih =>
    refine ⟨?_, ?_⟩
    · intro r0 x1 M ρ y h
      replace h := ao_ifT h rfl
      rcases ao_ifC h with h | h
      · exact ih.2 r0 x1 M ρ _ h
      · rcases ao_ifC h with h | h
        · rcases ao_ifC h with h | h
          · obtain ⟨-, h⟩ := ao_some h
            cases h
            exact ao_le_rf _
          · obtain ⟨-, h⟩ := ao_some h
            obtain ⟨j5, hj5, h⟩ := ao_bind h
            obtain ⟨-, h⟩ := ao_some h
            obtain ⟨p7, hp7, h⟩ := ao_bind h
            cases h
            exact ao_le_rf _
        · exact ih.2 r0 x1 M ρ _ h
    · intro r0 x1 M ρ y h
      replace h := ao_ifF h (by decide)
      replace h := ao_ifT h rfl
      cases h
      exact ao_le_th _
set_option maxRecDepth 100000 in
set_option maxHeartbeats 4000000 in
theorem wX10_count {Γ : ao_C} (d : Nat) (hd : 8 ≤ d) (MC MS : Nat) : ∀ n : Nat, (∀ (r0 : Nat) (x1 : Int32) (M : ao_M) (ρ : ao_H) (y : (Int32 ⊕ String) × ao_S), fX10_count n 0 r0 x1 M ρ = some y → ao_W Γ uX10_count (ao_rm d MC MS) (ao_Q Γ (ao_ZI y) MC MS) (ao_dc ρ y.2.2) (ao_ds ρ y.2.2) 0 [some (.ref (Γ.2.2.2 + r0)), some (.int x1)] [] (M, ρ)) ∧ (∀ (r0 : Nat) (x1 : Int32) (M : ao_M) (ρ : ao_H) (y : (Int32 ⊕ String) × ao_S), fX10_count n 10 r0 x1 M ρ = some y → ao_W Γ uX10_count (ao_rm d MC MS) (ao_Q Γ (ao_ZI y) MC MS) (ao_dc ρ y.2.2) (ao_ds ρ y.2.2) 10 [some (.ref (Γ.2.2.2 + r0)), some (.int x1)] [] (M, ρ)) := by
  intro n
  induction n with
  | zero => exact ⟨fun _ _ _ _ _ h => ao_no h, fun _ _ _ _ _ h => ao_no h⟩
  | succ n ih =>
    refine ⟨?_, ?_⟩
    · intro r0 x1 M ρ y h
      replace h := ao_ifT h rfl
      refine ao_iload_n 1 dX10_count_0 rfl rfl ?_
      refine ao_if_lt 10 dX10_count_1 (by decide) (fun c1 => ?_) (fun c1 => ?_)
      · replace h := ao_ifT h c1
        exact ih.2 r0 x1 M ρ _ h
      · replace h := ao_ifF h c1
        refine ao_iload_n 1 dX10_count_4 rfl rfl ?_
        refine ao_bipush (v := 8) dX10_count_5 (by decide) ?_
        refine ao_icmp_le 20 dX10_count_7 (by decide) (fun c2 => ?_) (fun c2 => ?_)
        · replace h := ao_ifT h c2
          refine ao_iload_n 1 dX10_count_20 rfl rfl ?_
          refine ao_if_ne 31 dX10_count_21 (by decide) (fun c3 => ?_) (fun c3 => ?_)
          · replace h := ao_ifF h c3
            refine ao_aload_n 0 dX10_count_31 rfl rfl ?_
            obtain ⟨hk4, h⟩ := ao_some h
            obtain ⟨j5, hj5, h⟩ := ao_bind h
            refine an_getR r0 10 2 (q := (RX10, TX10, 6)) dX10_count_32 rfl hk4 (Nat.le_of_ble_eq_true rfl) rfl lf_X10_23 hj5 ?_
            refine ao_iload_n 1 dX10_count_35 rfl rfl ?_
            obtain ⟨hk6, h⟩ := ao_some h
            obtain ⟨p7, hp7, h⟩ := ao_bind h
            refine an_callVi j5 2 (q := (RX2, TX2, 7)) [.int x1] (aX2_tellOf (d - 1) (by omega) _ j5 x1 M ρ hp7) dX10_count_36 lc_X10_213 li_X2_tellOf ls_X2_tellOf rfl hk6 rfl rfl (Nat.le_of_ble_eq_true rfl) (ao_hR (by omega) (by decide)) ?_
            cases h
            exact ao_ireturn dX10_count_39 rfl rfl ⟨rfl, rfl⟩
          · replace h := ao_ifT h c3
            refine ao_aload_n 0 dX10_count_24 rfl rfl ?_
            obtain ⟨hk8, h⟩ := ao_some h
            refine an_getI r0 10 4 (q := (RX10, TX10, 6)) dX10_count_25 rfl hk8 (Nat.le_of_ble_eq_true rfl) rfl lf_X10_34 ?_
            refine ao_goto 39 dX10_count_28 (by decide) ?_
            cases h
            exact ao_ireturn dX10_count_39 rfl rfl ⟨rfl, rfl⟩
        · replace h := ao_ifF h c2
          exact ih.2 r0 x1 M ρ _ h
    · intro r0 x1 M ρ y h
      replace h := ao_ifF h (by decide)
      replace h := ao_ifT h rfl
      cases h
      exact cx_throwS "java/lang/IllegalArgumentException" "nothing to count" ["java/lang/RuntimeException", "java/lang/Exception"] lth_X10_211 rfl dX10_count_10 dX10_count_13 dX10_count_14 dX10_count_16 dX10_count_19 (by omega) (Nat.le_of_ble_eq_true rfl) ao_thM ⟨rfl, rfl⟩
theorem me_X10_count (n : Nat) (r0 : Nat) (x1 : Int32) (M : ao_M) (ρ : ao_H) {y : (Int32 ⊕ String) × ao_S} (h : gX10_count n r0 x1 M ρ = some y) : ao_le ρ y.2.2 := (mX10_count n).1 r0 x1 M ρ y h
set_option maxRecDepth 100000 in
set_option maxHeartbeats 4000000 in
theorem aX10_count {Γ : ao_C} (d : Nat) (hd : 8 ≤ d) (n : Nat) (r0 : Nat) (x1 : Int32) (M : ao_M) (ρ : ao_H) {y : (Int32 ⊕ String) × ao_S} (h : gX10_count n r0 x1 M ρ = some y) : ao_A Γ uX10_count d (ao_dc ρ y.2.2) (ao_ds ρ y.2.2) [.ref (Γ.2.2.2 + r0), .int x1] (M, ρ) (ao_ZI y) := by
  refine ao_of (by decide) (ao_cat1 (Nat.le_of_ble_eq_true rfl)) (Nat.le_of_ble_eq_true rfl) ?_
  show ao_W Γ uX10_count (ao_rm d (ao_dc ρ y.2.2) (ao_ds ρ y.2.2)) (ao_Q Γ (ao_ZI y) (ao_dc ρ y.2.2) (ao_ds ρ y.2.2)) (ao_dc ρ y.2.2) (ao_ds ρ y.2.2) 0 [some (.ref (Γ.2.2.2 + r0)), some (.int x1)] [] (M, ρ)
  exact (wX10_count d hd _ _ n).1 r0 x1 M ρ y h

abbrev uX12_condition : ao_Mi := (yX12_condition, cX12_condition, 1, none, [])
def fX12_condition : Nat → Nat → Nat →  ao_M → ao_H → Option ((Int32 ⊕ String) × ao_S)
  | 0, _, _, _, _ => none
  | n + 1, pc, r0, M, ρ =>
    if pc = 0 then
      if ρ.2.1 r0 = 22 then
      (gX12_isSign r0 (40 : Int32) M ρ).bind fun p2 =>
      if p2.1 = 0 then
        (gX12_wrong r0 (p2.2 r0 11) p2.2 ρ).bind fun p6 =>
        if ρ.2.1 p6.1 = 21 then
        some (.inr RX11, p6.2, ρ)
        else none
      else
        (gX12_enter n r0 p2.2 ρ).bind fun p4 =>
        ao_cs p4.1 (fun _ => fX12_condition n 22 r0 p4.2.1 p4.2.2) (fun E => some (.inr E, p4.2.1, p4.2.2))
      else none
    else if pc = 22 then
      if ρ.2.1 r0 = 22 then
      (gX12_token n r0 M ρ).bind fun p9 =>
      (gX12_expression n r0 p9 ρ).bind fun p10 =>
      ao_cs p10.1 (fun _ => fX12_condition n 30 r0 p10.2.1 p10.2.2) (fun E => some (.inr E, p10.2.1, p10.2.2))
      else none
    else if pc = 30 then
      if ρ.2.1 r0 = 22 then
      (gX12_need n r0 (41 : Int32) M ρ).bind fun p13 =>
      ao_cs p13.1 (fun _ => fX12_condition n 36 r0 p13.2.1 p13.2.2) (fun E => some (.inr E, p13.2.1, p13.2.2))
      else none
    else if pc = 36 then
      if ρ.2.1 r0 = 22 then
      ao_let (ao_u M r0 14 ((M r0 14) - (1 : Int32))) fun M16 =>
      some (.inl 0, M16, ρ)
      else none
    else none
def gX12_condition (n : Nat) (r0 : Nat) (M : ao_M) (ρ : ao_H) : Option ((Int32 ⊕ String) × ao_S) := fX12_condition n 0 r0 M ρ
set_option maxRecDepth 100000 in
set_option maxHeartbeats 4000000 in
theorem mX12_condition : ∀ n : Nat, (∀ (r0 : Nat) (M : ao_M) (ρ : ao_H) (y : (Int32 ⊕ String) × ao_S), fX12_condition n 0 r0 M ρ = some y → ao_le ρ y.2.2) ∧ (∀ (r0 : Nat) (M : ao_M) (ρ : ao_H) (y : (Int32 ⊕ String) × ao_S), fX12_condition n 22 r0 M ρ = some y → ao_le ρ y.2.2) ∧ (∀ (r0 : Nat) (M : ao_M) (ρ : ao_H) (y : (Int32 ⊕ String) × ao_S), fX12_condition n 30 r0 M ρ = some y → ao_le ρ y.2.2) ∧ (∀ (r0 : Nat) (M : ao_M) (ρ : ao_H) (y : (Int32 ⊕ String) × ao_S), fX12_condition n 36 r0 M ρ = some y → ao_le ρ y.2.2) := by
  intro n
  induction n with
  | zero => exact ⟨fun _ _ _ _ h => ao_no h, fun _ _ _ _ h => ao_no h, fun _ _ _ _ h => ao_no h, fun _ _ _ _ h => ao_no h⟩
  | succ n ih =>
    refine ⟨?_, ?_, ?_, ?_⟩
    · intro r0 M ρ y h
      replace h := ao_ifT h rfl
      obtain ⟨-, h⟩ := ao_some h
      obtain ⟨p2, hp2, h⟩ := ao_bind h
      rcases ao_ifC h with h | h
      · obtain ⟨p6, hp6, h⟩ := ao_bind h
        obtain ⟨-, h⟩ := ao_some h
        cases h
        exact ao_le_rf _
      · obtain ⟨p4, hp4, h⟩ := ao_bind h
        exact ao_le_tr (me_X12_enter n r0 p2.2 ρ hp4) (ao_csM h (fun _ h => ih.2.1 r0 p4.2.1 p4.2.2 _ h) (fun _ h => by cases h; exact ao_le_rf _))
    · intro r0 M ρ y h
      replace h := ao_ifF h (by decide)
      replace h := ao_ifT h rfl
      obtain ⟨-, h⟩ := ao_some h
      obtain ⟨p9, hp9, h⟩ := ao_bind h
      obtain ⟨p10, hp10, h⟩ := ao_bind h
      exact ao_le_tr (me_X12_expression n r0 p9 ρ hp10) (ao_csM h (fun _ h => ih.2.2.1 r0 p10.2.1 p10.2.2 _ h) (fun _ h => by cases h; exact ao_le_rf _))
    · intro r0 M ρ y h
      replace h := ao_ifF h (by decide)
      replace h := ao_ifF h (by decide)
      replace h := ao_ifT h rfl
      obtain ⟨-, h⟩ := ao_some h
      obtain ⟨p13, hp13, h⟩ := ao_bind h
      exact ao_le_tr (me_X12_need n r0 (41 : Int32) M ρ hp13) (ao_csM h (fun _ h => ih.2.2.2 r0 p13.2.1 p13.2.2 _ h) (fun _ h => by cases h; exact ao_le_rf _))
    · intro r0 M ρ y h
      replace h := ao_ifF h (by decide)
      replace h := ao_ifF h (by decide)
      replace h := ao_ifF h (by decide)
      replace h := ao_ifT h rfl
      obtain ⟨-, h⟩ := ao_some h
      replace h := ao_letD h rfl
      generalize (ao_u M r0 14 ((M r0 14) - (1 : Int32))) = M16 at h
      cases h
      exact ao_le_rf _
set_option maxRecDepth 100000 in
set_option maxHeartbeats 4000000 in
theorem wX12_condition {Γ : ao_C} (d : Nat) (hd : 73 ≤ d) (MC MS : Nat) : ∀ n : Nat, (∀ (r0 : Nat) (M : ao_M) (ρ : ao_H) (y : (Int32 ⊕ String) × ao_S), fX12_condition n 0 r0 M ρ = some y → ao_W Γ uX12_condition (ao_rm d MC MS) (ao_Q Γ (ao_ZV y) MC MS) (ao_dc ρ y.2.2) (ao_ds ρ y.2.2) 0 [some (.ref (Γ.2.2.2 + r0))] [] (M, ρ)) ∧ (∀ (r0 : Nat) (M : ao_M) (ρ : ao_H) (y : (Int32 ⊕ String) × ao_S), fX12_condition n 22 r0 M ρ = some y → ao_W Γ uX12_condition (ao_rm d MC MS) (ao_Q Γ (ao_ZV y) MC MS) (ao_dc ρ y.2.2) (ao_ds ρ y.2.2) 22 [some (.ref (Γ.2.2.2 + r0))] [] (M, ρ)) ∧ (∀ (r0 : Nat) (M : ao_M) (ρ : ao_H) (y : (Int32 ⊕ String) × ao_S), fX12_condition n 30 r0 M ρ = some y → ao_W Γ uX12_condition (ao_rm d MC MS) (ao_Q Γ (ao_ZV y) MC MS) (ao_dc ρ y.2.2) (ao_ds ρ y.2.2) 30 [some (.ref (Γ.2.2.2 + r0))] [] (M, ρ)) ∧ (∀ (r0 : Nat) (M : ao_M) (ρ : ao_H) (y : (Int32 ⊕ String) × ao_S), fX12_condition n 36 r0 M ρ = some y → ao_W Γ uX12_condition (ao_rm d MC MS) (ao_Q Γ (ao_ZV y) MC MS) (ao_dc ρ y.2.2) (ao_ds ρ y.2.2) 36 [some (.ref (Γ.2.2.2 + r0))] [] (M, ρ)) := by
  intro n
  induction n with
  | zero => exact ⟨fun _ _ _ _ h => ao_no h, fun _ _ _ _ h => ao_no h, fun _ _ _ _ h => ao_no h, fun _ _ _ _ h => ao_no h⟩
  | succ n ih =>
    refine ⟨?_, ?_, ?_, ?_⟩
    · intro r0 M ρ y h
      replace h := ao_ifT h rfl
      refine ao_aload_n 0 dX12_condition_0 rfl rfl ?_
      refine ao_bipush (v := 40) dX12_condition_1 (by decide) ?_
      obtain ⟨hk1, h⟩ := ao_some h
      obtain ⟨p2, hp2, h⟩ := ao_bind h
      refine an_callVi r0 12 (q := (RX12, TX12, 83)) [.int (40 : Int32)] (aX12_isSign (d - 1) (by omega) r0 (40 : Int32) M ρ hp2) dX12_condition_3 lc_X12_60 li_X12_isSign ls_X12_isSign rfl hk1 rfl rfl (Nat.le_of_ble_eq_true rfl) (ao_hR (by omega) (by decide)) ?_
      refine ao_if_ne 18 dX12_condition_6 (by decide) (fun c3 => ?_) (fun c3 => ?_)
      · replace h := ao_ifF h c3
        refine ao_aload_n 0 dX12_condition_18 rfl rfl ?_
        obtain ⟨p4, hp4, h⟩ := ao_bind h
        refine cx_callVv r0 12 (q := (RX12, TX12, 83)) [] (aX12_enter (d - 1) (by omega) n r0 p2.2 ρ hp4) dX12_condition_19 lc_X12_97 li_X12_enter ls_X12_enter rfl hk1 rfl rfl (Nat.le_of_ble_eq_true rfl) (ao_hR (by omega) (by decide)) (ao_leC (me_X12_enter n r0 p2.2 ρ hp4) (ao_csM h (fun _ h => (mX12_condition n).2.1 r0 p4.2.1 p4.2.2 _ h) (fun _ h => by cases h; exact ao_le_rf _))) (ao_leS (me_X12_enter n r0 p2.2 ρ hp4) (ao_csM h (fun _ h => (mX12_condition n).2.1 r0 p4.2.1 p4.2.2 _ h) (fun _ h => by cases h; exact ao_le_rf _))) (fun _ e5 => ?_) (fun _ e5 => ?_)
        · replace h := ao_csL h e5
          exact ih.2.1 r0 p4.2.1 p4.2.2 _ h
        · replace h := ao_csR h e5
          cases h
          exact cx_out rfl ⟨rfl, rfl⟩
      · replace h := ao_ifT h c3
        refine ao_aload_n 0 dX12_condition_9 rfl rfl ?_
        refine ao_aload_n 0 dX12_condition_10 rfl rfl ?_
        refine an_getI r0 12 11 (q := (RX12, TX12, 83)) dX12_condition_11 rfl hk1 (Nat.le_of_ble_eq_true rfl) rfl lf_X12_39 ?_
        obtain ⟨p6, hp6, h⟩ := ao_bind h
        refine an_callVr r0 12 (q := (RX12, TX12, 83)) [.int (p2.2 r0 11)] (aX12_wrong (d - 1) (by omega) r0 (p2.2 r0 11) p2.2 ρ hp6) dX12_condition_14 lc_X12_70 li_X12_wrong ls_X12_wrong rfl hk1 rfl rfl (Nat.le_of_ble_eq_true rfl) (ao_hR (by omega) (by decide)) ?_
        obtain ⟨hk7, h⟩ := ao_some h
        cases h
        exact cx_athrow p6.1 11 (q := (RX11, TX11, 6)) dX12_condition_17 rfl hk7 rfl ⟨rfl, rfl⟩
    · intro r0 M ρ y h
      replace h := ao_ifF h (by decide)
      replace h := ao_ifT h rfl
      refine ao_aload_n 0 dX12_condition_22 rfl rfl ?_
      obtain ⟨hk8, h⟩ := ao_some h
      obtain ⟨p9, hp9, h⟩ := ao_bind h
      refine an_callVv r0 12 (q := (RX12, TX12, 83)) [] (aX12_token (d - 1) (by omega) _ r0 M ρ hp9) dX12_condition_23 lc_X12_63 li_X12_token ls_X12_token rfl hk8 rfl rfl (Nat.le_of_ble_eq_true rfl) (ao_hR (by omega) (by decide)) ?_
      refine ao_aload_n 0 dX12_condition_26 rfl rfl ?_
      obtain ⟨p10, hp10, h⟩ := ao_bind h
      refine cx_callVv r0 12 (q := (RX12, TX12, 83)) [] (aX12_expression (d - 1) (by omega) n r0 p9 ρ hp10) dX12_condition_27 lc_X12_100 li_X12_expression ls_X12_expression rfl hk8 rfl rfl (Nat.le_of_ble_eq_true rfl) (ao_hR (by omega) (by decide)) (ao_leC (me_X12_expression n r0 p9 ρ hp10) (ao_csM h (fun _ h => (mX12_condition n).2.2.1 r0 p10.2.1 p10.2.2 _ h) (fun _ h => by cases h; exact ao_le_rf _))) (ao_leS (me_X12_expression n r0 p9 ρ hp10) (ao_csM h (fun _ h => (mX12_condition n).2.2.1 r0 p10.2.1 p10.2.2 _ h) (fun _ h => by cases h; exact ao_le_rf _))) (fun _ e11 => ?_) (fun _ e11 => ?_)
      · replace h := ao_csL h e11
        exact ih.2.2.1 r0 p10.2.1 p10.2.2 _ h
      · replace h := ao_csR h e11
        cases h
        exact cx_out rfl ⟨rfl, rfl⟩
    · intro r0 M ρ y h
      replace h := ao_ifF h (by decide)
      replace h := ao_ifF h (by decide)
      replace h := ao_ifT h rfl
      refine ao_aload_n 0 dX12_condition_30 rfl rfl ?_
      refine ao_bipush (v := 41) dX12_condition_31 (by decide) ?_
      obtain ⟨hk12, h⟩ := ao_some h
      obtain ⟨p13, hp13, h⟩ := ao_bind h
      refine cx_callVv r0 12 (q := (RX12, TX12, 83)) [.int (41 : Int32)] (aX12_need (d - 1) (by omega) n r0 (41 : Int32) M ρ hp13) dX12_condition_33 lc_X12_103 li_X12_need ls_X12_need rfl hk12 rfl rfl (Nat.le_of_ble_eq_true rfl) (ao_hR (by omega) (by decide)) (ao_leC (me_X12_need n r0 (41 : Int32) M ρ hp13) (ao_csM h (fun _ h => (mX12_condition n).2.2.2 r0 p13.2.1 p13.2.2 _ h) (fun _ h => by cases h; exact ao_le_rf _))) (ao_leS (me_X12_need n r0 (41 : Int32) M ρ hp13) (ao_csM h (fun _ h => (mX12_condition n).2.2.2 r0 p13.2.1 p13.2.2 _ h) (fun _ h => by cases h; exact ao_le_rf _))) (fun _ e14 => ?_) (fun _ e14 => ?_)
      · replace h := ao_csL h e14
        exact ih.2.2.2 r0 p13.2.1 p13.2.2 _ h
      · replace h := ao_csR h e14
        cases h
        exact cx_out rfl ⟨rfl, rfl⟩
    · intro r0 M ρ y h
      replace h := ao_ifF h (by decide)
      replace h := ao_ifF h (by decide)
      replace h := ao_ifF h (by decide)
      replace h := ao_ifT h rfl
      refine ao_aload_n 0 dX12_condition_36 rfl rfl ?_
      refine ao_dup dX12_condition_37 rfl ?_
      obtain ⟨hk15, h⟩ := ao_some h
      refine an_getI r0 12 14 (q := (RX12, TX12, 83)) dX12_condition_38 rfl hk15 (Nat.le_of_ble_eq_true rfl) rfl lf_X12_81 ?_
      refine ao_iconst (v := 1) dX12_condition_41 (by decide) ?_
      refine ao_isub dX12_condition_42 ?_
      refine an_putI r0 12 14 (q := (RX12, TX12, 83)) dX12_condition_43 rfl hk15 (Nat.le_of_ble_eq_true rfl) lf_X12_81 rfl rfl rfl rfl (fun M16 hM16 => ?_)
      replace h := ao_letD h hM16
      cases h
      exact ao_return dX12_condition_46 rfl ⟨rfl, rfl⟩
theorem me_X12_condition (n : Nat) (r0 : Nat) (M : ao_M) (ρ : ao_H) {y : (Int32 ⊕ String) × ao_S} (h : gX12_condition n r0 M ρ = some y) : ao_le ρ y.2.2 := (mX12_condition n).1 r0 M ρ y h
set_option maxRecDepth 100000 in
set_option maxHeartbeats 4000000 in
theorem aX12_condition {Γ : ao_C} (d : Nat) (hd : 73 ≤ d) (n : Nat) (r0 : Nat) (M : ao_M) (ρ : ao_H) {y : (Int32 ⊕ String) × ao_S} (h : gX12_condition n r0 M ρ = some y) : ao_A Γ uX12_condition d (ao_dc ρ y.2.2) (ao_ds ρ y.2.2) [.ref (Γ.2.2.2 + r0)] (M, ρ) (ao_ZV y) := by
  refine ao_of (by decide) (ao_cat1 (Nat.le_of_ble_eq_true rfl)) (Nat.le_of_ble_eq_true rfl) ?_
  show ao_W Γ uX12_condition (ao_rm d (ao_dc ρ y.2.2) (ao_ds ρ y.2.2)) (ao_Q Γ (ao_ZV y) (ao_dc ρ y.2.2) (ao_ds ρ y.2.2)) (ao_dc ρ y.2.2) (ao_ds ρ y.2.2) 0 [some (.ref (Γ.2.2.2 + r0))] [] (M, ρ)
  exact (wX12_condition d hd _ _ n).1 r0 M ρ y h

abbrev uX12_reset : ao_Mi := (yX12_reset, cX12_reset, 3, none, [])
def fX12_reset : Nat → Nat → Nat → Int32 → Int32 →  ao_M → ao_H → Option (ao_M)
  | 0, _, _, _, _, _, _ => none
  | n + 1, pc, r0, x1, x2, M, ρ =>
    if pc = 0 then
      if ρ.2.1 r0 = 22 then
      (ρ.1 r0 29).bind fun j2 =>
      if ρ.2.1 j2 = 0 then
      if ¬ (x1 < 0 ∨ ρ.2.2.1 j2 ≤ x1.toNatClampNeg) then
      if (M j2 x1.toNatClampNeg) = 0 then
        fX12_reset n 16 r0 x1 0 M ρ
      else
        ao_let (ao_u M j2 x1.toNatClampNeg (1 : Int32)) fun M6 =>
        fX12_reset n 16 r0 x1 0 M6 ρ
      else none
      else none
      else none
    else if pc = 16 then
      if ρ.2.1 r0 = 22 then
      (ρ.1 r0 30).bind fun j8 =>
      if ρ.2.1 j8 = 0 then
      if ¬ (x1 < 0 ∨ ρ.2.2.1 j8 ≤ x1.toNatClampNeg) then
      ao_let (ao_u M j8 x1.toNatClampNeg (0 : Int32)) fun M11 =>
      (ρ.1 r0 33).bind fun j12 =>
      if ρ.2.1 j12 = 0 then
      if ¬ (x1 < 0 ∨ ρ.2.2.1 j12 ≤ x1.toNatClampNeg) then
      ao_let (ao_u M11 j12 x1.toNatClampNeg (0 : Int32)) fun M15 =>
      (ρ.1 r0 34).bind fun j16 =>
      if ρ.2.1 j16 = 0 then
      if ¬ (x1 < 0 ∨ ρ.2.2.1 j16 ≤ x1.toNatClampNeg) then
      ao_let (ao_u M15 j16 x1.toNatClampNeg (0 : Int32)) fun M19 =>
      (ρ.1 r0 35).bind fun j20 =>
      if ρ.2.1 j20 = 0 then
      if ¬ (x1 < 0 ∨ ρ.2.2.1 j20 ≤ x1.toNatClampNeg) then
      ao_let (ao_u M19 j20 x1.toNatClampNeg (0 : Int32)) fun M23 =>
      (ρ.1 r0 36).bind fun j24 =>
      if ρ.2.1 j24 = 0 then
      if ¬ (x1 < 0 ∨ ρ.2.2.1 j24 ≤ x1.toNatClampNeg) then
      ao_let (ao_u M23 j24 x1.toNatClampNeg (0 : Int32)) fun M27 =>
      (ρ.1 r0 37).bind fun j28 =>
      if ρ.2.1 j28 = 0 then
      if ¬ (x1 < 0 ∨ ρ.2.2.1 j28 ≤ x1.toNatClampNeg) then
      ao_let (ao_u M27 j28 x1.toNatClampNeg (0 : Int32)) fun M31 =>
      (ρ.1 r0 39).bind fun j32 =>
      if ρ.2.1 j32 = 0 then
      if ¬ (x1 < 0 ∨ ρ.2.2.1 j32 ≤ x1.toNatClampNeg) then
      ao_let (ao_u M31 j32 x1.toNatClampNeg (0 : Int32)) fun M35 =>
      (ρ.1 r0 40).bind fun j36 =>
      if ρ.2.1 j36 = 0 then
      if ¬ (x1 < 0 ∨ ρ.2.2.1 j36 ≤ x1.toNatClampNeg) then
      ao_let (ao_u M35 j36 x1.toNatClampNeg (0 : Int32)) fun M39 =>
      fX12_reset n 74 r0 x1 (0 : Int32) M39 ρ
      else none
      else none
      else none
      else none
      else none
      else none
      else none
      else none
      else none
      else none
      else none
      else none
      else none
      else none
      else none
      else none
      else none
    else if pc = 74 then
      if (26 : Int32) ≤ x2 then
        if ρ.2.1 r0 = 22 then
        (gX12_clearLevel n r0 x1 (0 : Int32) M ρ).bind fun p42 =>
        some p42
        else none
      else
        if ρ.2.1 r0 = 22 then
        (ρ.1 r0 31).bind fun j44 =>
        if ρ.2.1 j44 = 0 then
        if ¬ (((x1 * (26 : Int32)) + x2) < 0 ∨ ρ.2.2.1 j44 ≤ ((x1 * (26 : Int32)) + x2).toNatClampNeg) then
        ao_let (ao_u M j44 ((x1 * (26 : Int32)) + x2).toNatClampNeg (0 : Int32)) fun M47 =>
        ao_let (x2 + (1 : Int32)) fun v48 =>
        fX12_reset n 74 r0 x1 v48 M47 ρ
        else none
        else none
        else none
    else none
def gX12_reset (n : Nat) (r0 : Nat) (x1 : Int32) (M : ao_M) (ρ : ao_H) : Option (ao_M) := fX12_reset n 0 r0 x1 0 M ρ
set_option maxRecDepth 100000 in
set_option maxHeartbeats 4000000 in
theorem wX12_reset {Γ : ao_C} {ρ : ao_H} (d : Nat) (hd : 2 ≤ d) : ∀ n : Nat, (∀ (r0 : Nat) (x1 : Int32) (M : ao_M) (y : ao_M), fX12_reset n 0 r0 x1 0 M ρ = some y → ao_W Γ uX12_reset (ao_rm d 0 0) (ao_Q Γ (ao_PV ρ y) 0 0) 0 0 0 [some (.ref (Γ.2.2.2 + r0)), some (.int x1), none] [] (M, ρ)) ∧ (∀ (r0 : Nat) (x1 : Int32) (M : ao_M) (y : ao_M), fX12_reset n 16 r0 x1 0 M ρ = some y → ao_W Γ uX12_reset (ao_rm d 0 0) (ao_Q Γ (ao_PV ρ y) 0 0) 0 0 16 [some (.ref (Γ.2.2.2 + r0)), some (.int x1), none] [] (M, ρ)) ∧ (∀ (r0 : Nat) (x1 : Int32) (x2 : Int32) (M : ao_M) (y : ao_M), fX12_reset n 74 r0 x1 x2 M ρ = some y → ao_W Γ uX12_reset (ao_rm d 0 0) (ao_Q Γ (ao_PV ρ y) 0 0) 0 0 74 [some (.ref (Γ.2.2.2 + r0)), some (.int x1), some (.int x2)] [] (M, ρ)) := by
  intro n
  induction n with
  | zero => exact ⟨fun _ _ _ _ h => ao_no h, fun _ _ _ _ h => ao_no h, fun _ _ _ _ _ h => ao_no h⟩
  | succ n ih =>
    refine ⟨?_, ?_, ?_⟩
    · intro r0 x1 M y h
      replace h := ao_ifT h rfl
      refine ao_aload_n 0 dX12_reset_0 rfl rfl ?_
      obtain ⟨hk1, h⟩ := ao_some h
      obtain ⟨j2, hj2, h⟩ := ao_bind h
      refine an_getR r0 12 29 (q := (RX12, TX12, 83)) dX12_reset_1 rfl hk1 (Nat.le_of_ble_eq_true rfl) rfl lf_X12_187 hj2 ?_
      refine ao_iload_n 1 dX12_reset_4 rfl rfl ?_
      obtain ⟨hk3, h⟩ := ao_some h
      obtain ⟨hb4, h⟩ := ao_some h
      refine an_iaload j2 dX12_reset_5 hk3 hb4 ?_
      refine ao_if_eq 16 dX12_reset_6 (by decide) (fun c5 => ?_) (fun c5 => ?_)
      · replace h := ao_ifT h c5
        exact ih.2.1 r0 x1 M _ h
      · replace h := ao_ifF h c5
        refine ao_aload_n 0 dX12_reset_9 rfl rfl ?_
        refine an_getR r0 12 29 (q := (RX12, TX12, 83)) dX12_reset_10 rfl hk1 (Nat.le_of_ble_eq_true rfl) rfl lf_X12_187 hj2 ?_
        refine ao_iload_n 1 dX12_reset_13 rfl rfl ?_
        refine ao_iconst (v := 1) dX12_reset_14 (by decide) ?_
        refine an_iastore j2 dX12_reset_15 hk3 hb4 (fun M6 hM6 => ?_)
        replace h := ao_letD h hM6
        exact ih.2.1 r0 x1 M6 _ h
    · intro r0 x1 M y h
      replace h := ao_ifF h (by decide)
      replace h := ao_ifT h rfl
      refine ao_aload_n 0 dX12_reset_16 rfl rfl ?_
      obtain ⟨hk7, h⟩ := ao_some h
      obtain ⟨j8, hj8, h⟩ := ao_bind h
      refine an_getR r0 12 30 (q := (RX12, TX12, 83)) dX12_reset_17 rfl hk7 (Nat.le_of_ble_eq_true rfl) rfl lf_X12_190 hj8 ?_
      refine ao_iload_n 1 dX12_reset_20 rfl rfl ?_
      refine ao_iconst (v := 0) dX12_reset_21 (by decide) ?_
      obtain ⟨hk9, h⟩ := ao_some h
      obtain ⟨hb10, h⟩ := ao_some h
      refine an_iastore j8 dX12_reset_22 hk9 hb10 (fun M11 hM11 => ?_)
      replace h := ao_letD h hM11
      refine ao_aload_n 0 dX12_reset_23 rfl rfl ?_
      obtain ⟨j12, hj12, h⟩ := ao_bind h
      refine an_getR r0 12 33 (q := (RX12, TX12, 83)) dX12_reset_24 rfl hk7 (Nat.le_of_ble_eq_true rfl) rfl lf_X12_199 hj12 ?_
      refine ao_iload_n 1 dX12_reset_27 rfl rfl ?_
      refine ao_iconst (v := 0) dX12_reset_28 (by decide) ?_
      obtain ⟨hk13, h⟩ := ao_some h
      obtain ⟨hb14, h⟩ := ao_some h
      refine an_iastore j12 dX12_reset_29 hk13 hb14 (fun M15 hM15 => ?_)
      replace h := ao_letD h hM15
      refine ao_aload_n 0 dX12_reset_30 rfl rfl ?_
      obtain ⟨j16, hj16, h⟩ := ao_bind h
      refine an_getR r0 12 34 (q := (RX12, TX12, 83)) dX12_reset_31 rfl hk7 (Nat.le_of_ble_eq_true rfl) rfl lf_X12_202 hj16 ?_
      refine ao_iload_n 1 dX12_reset_34 rfl rfl ?_
      refine ao_iconst (v := 0) dX12_reset_35 (by decide) ?_
      obtain ⟨hk17, h⟩ := ao_some h
      obtain ⟨hb18, h⟩ := ao_some h
      refine an_iastore j16 dX12_reset_36 hk17 hb18 (fun M19 hM19 => ?_)
      replace h := ao_letD h hM19
      refine ao_aload_n 0 dX12_reset_37 rfl rfl ?_
      obtain ⟨j20, hj20, h⟩ := ao_bind h
      refine an_getR r0 12 35 (q := (RX12, TX12, 83)) dX12_reset_38 rfl hk7 (Nat.le_of_ble_eq_true rfl) rfl lf_X12_205 hj20 ?_
      refine ao_iload_n 1 dX12_reset_41 rfl rfl ?_
      refine ao_iconst (v := 0) dX12_reset_42 (by decide) ?_
      obtain ⟨hk21, h⟩ := ao_some h
      obtain ⟨hb22, h⟩ := ao_some h
      refine an_iastore j20 dX12_reset_43 hk21 hb22 (fun M23 hM23 => ?_)
      replace h := ao_letD h hM23
      refine ao_aload_n 0 dX12_reset_44 rfl rfl ?_
      obtain ⟨j24, hj24, h⟩ := ao_bind h
      refine an_getR r0 12 36 (q := (RX12, TX12, 83)) dX12_reset_45 rfl hk7 (Nat.le_of_ble_eq_true rfl) rfl lf_X12_208 hj24 ?_
      refine ao_iload_n 1 dX12_reset_48 rfl rfl ?_
      refine ao_iconst (v := 0) dX12_reset_49 (by decide) ?_
      obtain ⟨hk25, h⟩ := ao_some h
      obtain ⟨hb26, h⟩ := ao_some h
      refine an_iastore j24 dX12_reset_50 hk25 hb26 (fun M27 hM27 => ?_)
      replace h := ao_letD h hM27
      refine ao_aload_n 0 dX12_reset_51 rfl rfl ?_
      obtain ⟨j28, hj28, h⟩ := ao_bind h
      refine an_getR r0 12 37 (q := (RX12, TX12, 83)) dX12_reset_52 rfl hk7 (Nat.le_of_ble_eq_true rfl) rfl lf_X12_211 hj28 ?_
      refine ao_iload_n 1 dX12_reset_55 rfl rfl ?_
      refine ao_iconst (v := 0) dX12_reset_56 (by decide) ?_
      obtain ⟨hk29, h⟩ := ao_some h
      obtain ⟨hb30, h⟩ := ao_some h
      refine an_iastore j28 dX12_reset_57 hk29 hb30 (fun M31 hM31 => ?_)
      replace h := ao_letD h hM31
      refine ao_aload_n 0 dX12_reset_58 rfl rfl ?_
      obtain ⟨j32, hj32, h⟩ := ao_bind h
      refine an_getR r0 12 39 (q := (RX12, TX12, 83)) dX12_reset_59 rfl hk7 (Nat.le_of_ble_eq_true rfl) rfl lf_X12_217 hj32 ?_
      refine ao_iload_n 1 dX12_reset_62 rfl rfl ?_
      refine ao_iconst (v := 0) dX12_reset_63 (by decide) ?_
      obtain ⟨hk33, h⟩ := ao_some h
      obtain ⟨hb34, h⟩ := ao_some h
      refine an_iastore j32 dX12_reset_64 hk33 hb34 (fun M35 hM35 => ?_)
      replace h := ao_letD h hM35
      refine ao_aload_n 0 dX12_reset_65 rfl rfl ?_
      obtain ⟨j36, hj36, h⟩ := ao_bind h
      refine an_getR r0 12 40 (q := (RX12, TX12, 83)) dX12_reset_66 rfl hk7 (Nat.le_of_ble_eq_true rfl) rfl lf_X12_220 hj36 ?_
      refine ao_iload_n 1 dX12_reset_69 rfl rfl ?_
      refine ao_iconst (v := 0) dX12_reset_70 (by decide) ?_
      obtain ⟨hk37, h⟩ := ao_some h
      obtain ⟨hb38, h⟩ := ao_some h
      refine an_iastore j36 dX12_reset_71 hk37 hb38 (fun M39 hM39 => ?_)
      replace h := ao_letD h hM39
      refine ao_iconst (v := 0) dX12_reset_72 (by decide) ?_
      refine ao_istore_n 2 (lo' := [some (.ref (Γ.2.2.2 + r0)), some (.int x1), some (.int (0 : Int32))]) dX12_reset_73 rfl (Nat.le_of_ble_eq_true rfl) rfl ?_
      exact ih.2.2 r0 x1 (0 : Int32) M39 _ h
    · intro r0 x1 x2 M y h
      replace h := ao_ifF h (by decide)
      replace h := ao_ifF h (by decide)
      replace h := ao_ifT h rfl
      refine ao_iload_n 2 dX12_reset_74 rfl rfl ?_
      refine ao_bipush (v := 26) dX12_reset_75 (by decide) ?_
      refine ao_icmp_ge 98 dX12_reset_77 (by decide) (fun c40 => ?_) (fun c40 => ?_)
      · replace h := ao_ifT h c40
        refine ao_aload_n 0 dX12_reset_98 rfl rfl ?_
        refine ao_iload_n 1 dX12_reset_99 rfl rfl ?_
        refine ao_iconst (v := 0) dX12_reset_100 (by decide) ?_
        obtain ⟨hk41, h⟩ := ao_some h
        obtain ⟨p42, hp42, h⟩ := ao_bind h
        refine an_callVv r0 12 (q := (RX12, TX12, 83)) [.int x1, .int (0 : Int32)] (aX12_clearLevel (d - 1) (by omega) _ r0 x1 (0 : Int32) M ρ hp42) dX12_reset_101 lc_X12_353 li_X12_clearLevel ls_X12_clearLevel rfl hk41 rfl rfl (Nat.le_of_ble_eq_true rfl) (ao_hR (by omega) (by decide)) ?_
        cases h
        exact ao_return dX12_reset_104 rfl ⟨rfl, rfl⟩
      · replace h := ao_ifF h c40
        refine ao_aload_n 0 dX12_reset_80 rfl rfl ?_
        obtain ⟨hk43, h⟩ := ao_some h
        obtain ⟨j44, hj44, h⟩ := ao_bind h
        refine an_getR r0 12 31 (q := (RX12, TX12, 83)) dX12_reset_81 rfl hk43 (Nat.le_of_ble_eq_true rfl) rfl lf_X12_193 hj44 ?_
        refine ao_iload_n 1 dX12_reset_84 rfl rfl ?_
        refine ao_bipush (v := 26) dX12_reset_85 (by decide) ?_
        refine ao_imul dX12_reset_87 ?_
        refine ao_iload_n 2 dX12_reset_88 rfl rfl ?_
        refine ao_iadd dX12_reset_89 ?_
        refine ao_iconst (v := 0) dX12_reset_90 (by decide) ?_
        obtain ⟨hk45, h⟩ := ao_some h
        obtain ⟨hb46, h⟩ := ao_some h
        refine an_iastore j44 dX12_reset_91 hk45 hb46 (fun M47 hM47 => ?_)
        replace h := ao_letD h hM47
        obtain ⟨v48, hv48⟩ : ∃ z : Int32, z = x2 + (1 : Int32) := ⟨_, rfl⟩
        replace h := ao_letD h hv48
        refine ao_iinc 2 (v := v48) (lo' := [some (.ref (Γ.2.2.2 + r0)), some (.int x1), some (.int v48)]) dX12_reset_92 rfl (by rw [hv48]; rfl) (Nat.le_of_ble_eq_true rfl) rfl ?_
        refine ao_goto 74 dX12_reset_95 (by decide) ?_
        exact ih.2.2 r0 x1 v48 M47 _ h
set_option maxRecDepth 100000 in
set_option maxHeartbeats 4000000 in
theorem aX12_reset {Γ : ao_C} (d : Nat) (hd : 2 ≤ d) (n : Nat) (r0 : Nat) (x1 : Int32) (M : ao_M) (ρ : ao_H) {y : ao_M} (h : gX12_reset n r0 x1 M ρ = some y) : ao_A Γ uX12_reset d 0 0 [.ref (Γ.2.2.2 + r0), .int x1] (M, ρ) (ao_PV ρ y) := by
  refine ao_of (by decide) (ao_cat1 (Nat.le_of_ble_eq_true rfl)) (Nat.le_of_ble_eq_true rfl) ?_
  show ao_W Γ uX12_reset (ao_rm d 0 0) (ao_Q Γ (ao_PV ρ y) 0 0) 0 0 0 [some (.ref (Γ.2.2.2 + r0)), some (.int x1), none] [] (M, ρ)
  exact (wX12_reset d hd n).1 r0 x1 M y h

abbrev uX12_done : ao_Mi := (yX12_done, cX12_done, 5, none, [])
def fX12_done : Nat → Nat → Nat → Int32 → Int32 → Int32 → Int32 → Int32 → Int32 → Nat →  ao_M → ao_H → Option (ao_S)
  | 0, _, _, _, _, _, _, _, _, _, _, _ => none
  | n + 1, pc, r0, x1, x2, x3, x4, s0, s1, q2, M, ρ =>
    if pc = 0 then
      if ρ.2.1 r0 = 22 then
      (ρ.1 r0 42).bind fun j2 =>
      if ρ.2.1 j2 = 0 then
      if ¬ (x1 < 0 ∨ ρ.2.2.1 j2 ≤ x1.toNatClampNeg) then
      (gX12_newRecord n r0 x1 (M j2 x1.toNatClampNeg) M ρ).bind fun p5 =>
      ao_let p5.1 fun v6 =>
      fX12_done n 14 r0 x1 v6 (0 : Int32) 0 0 0 0 p5.2 ρ
      else none
      else none
      else none
    else if pc = 14 then
      if (26 : Int32) ≤ x3 then
        fX12_done n 127 r0 x1 x2 x3 0 0 0 0 M ρ
      else
        if x2 < 0 then
          fX12_done n 127 r0 x1 x2 x3 0 0 0 0 M ρ
        else
          if ρ.2.1 r0 = 22 then
          (gX12_cell r0 x1 (0 : Int32) x3 M ρ).bind fun p10 =>
          ao_let p10.1 fun v11 =>
          (ρ.1 r0 74).bind fun j12 =>
          (ρ.1 r0 55).bind fun j13 =>
          if ρ.2.1 j13 = 2 then
          if ¬ (v11 < 0 ∨ ρ.2.2.1 j13 ≤ v11.toNatClampNeg) then
          if (p10.2 j13 v11.toNatClampNeg) = 0 ∨ (p10.2 j13 v11.toNatClampNeg) = 1 then
          if ρ.2.1 j12 = 2 then
          if ¬ (((x2 * (26 : Int32)) + x3) < 0 ∨ ρ.2.2.1 j12 ≤ ((x2 * (26 : Int32)) + x3).toNatClampNeg) then
          ao_let (ao_u p10.2 j12 ((x2 * (26 : Int32)) + x3).toNatClampNeg (p10.2 j13 v11.toNatClampNeg)) fun M19 =>
          (ρ.1 r0 72).bind fun j20 =>
          (ρ.1 r0 57).bind fun j21 =>
          if ρ.2.1 j21 = 0 then
          if ¬ (v11 < 0 ∨ ρ.2.2.1 j21 ≤ v11.toNatClampNeg) then
          if ρ.2.1 j20 = 0 then
          if ¬ (((x2 * (26 : Int32)) + x3) < 0 ∨ ρ.2.2.1 j20 ≤ ((x2 * (26 : Int32)) + x3).toNatClampNeg) then
          ao_let (ao_u M19 j20 ((x2 * (26 : Int32)) + x3).toNatClampNeg (M19 j21 v11.toNatClampNeg)) fun M26 =>
          (ρ.1 r0 75).bind fun j27 =>
          (ρ.1 r0 56).bind fun j28 =>
          if ρ.2.1 j28 = 2 then
          if ¬ (v11 < 0 ∨ ρ.2.2.1 j28 ≤ v11.toNatClampNeg) then
          if (M26 j28 v11.toNatClampNeg) = 0 ∨ (M26 j28 v11.toNatClampNeg) = 1 then
          if ρ.2.1 j27 = 2 then
          if ¬ (((x2 * (26 : Int32)) + x3) < 0 ∨ ρ.2.2.1 j27 ≤ ((x2 * (26 : Int32)) + x3).toNatClampNeg) then
          ao_let (ao_u M26 j27 ((x2 * (26 : Int32)) + x3).toNatClampNeg (M26 j28 v11.toNatClampNeg)) fun M34 =>
          (ρ.1 r0 73).bind fun j35 =>
          (gX12_isEager n r0 M34 ρ).bind fun p36 =>
          if p36.1 = 0 then
            (ρ.1 r0 60).bind fun j38 =>
            if ρ.2.1 j38 = 0 then
            if ¬ (v11 < 0 ∨ ρ.2.2.1 j38 ≤ v11.toNatClampNeg) then
            fX12_done n 120 r0 x1 x2 x3 v11 (p36.2 j38 v11.toNatClampNeg) ((x2 * (26 : Int32)) + x3) j35 p36.2 ρ
            else none
            else none
          else
            (ρ.1 r0 17).bind fun j41 =>
            if ρ.2.1 j41 = 0 then
            if ¬ (x3 < 0 ∨ ρ.2.2.1 j41 ≤ x3.toNatClampNeg) then
            fX12_done n 120 r0 x1 x2 x3 v11 (p36.2 j41 x3.toNatClampNeg) ((x2 * (26 : Int32)) + x3) j35 p36.2 ρ
            else none
            else none
          else none
          else none
          else none
          else none
          else none
          else none
          else none
          else none
          else none
          else none
          else none
          else none
          else none
          else none
          else none
    else if pc = 120 then
      if ρ.2.1 q2 = 0 then
      if ¬ (s1 < 0 ∨ ρ.2.2.1 q2 ≤ s1.toNatClampNeg) then
      ao_let (ao_u M q2 s1.toNatClampNeg s0) fun M46 =>
      ao_let (x3 + (1 : Int32)) fun v47 =>
      fX12_done n 14 r0 x1 x2 v47 0 0 0 0 M46 ρ
      else none
      else none
    else if pc = 127 then
      if ρ.2.1 r0 = 22 then
      (gX12_isEager n r0 M ρ).bind fun p49 =>
      if p49.1 = 0 then
        (gX12_hasWrites n r0 x1 p49.2 ρ).bind fun p51 =>
        if p51.1 = 0 then
          fX12_done n 215 r0 x1 x2 x3 0 0 0 0 p51.2 ρ
        else
          ao_let (ao_u p51.2 r0 26 ((p51.2 r0 26) + (1 : Int32))) fun M53 =>
          fX12_done n 162 r0 x1 x2 (0 : Int32) 0 0 0 0 M53 ρ
      else
        (gX12_free n r0 x1 p49.2 ρ).bind fun p54 =>
        fX12_done n 139 r0 x1 x2 x3 0 0 0 0 p54.1 p54.2
      else none
    else if pc = 139 then
      fX12_done n 215 r0 x1 x2 x3 0 0 0 0 M ρ
    else if pc = 162 then
      if (26 : Int32) ≤ x3 then
        fX12_done n 215 r0 x1 x2 x3 0 0 0 0 M ρ
      else
        if ρ.2.1 r0 = 22 then
        (ρ.1 r0 56).bind fun j57 =>
        (gX12_cell r0 x1 (0 : Int32) x3 M ρ).bind fun p58 =>
        if ρ.2.1 j57 = 2 then
        if ¬ (p58.1 < 0 ∨ ρ.2.2.1 j57 ≤ p58.1.toNatClampNeg) then
        if (p58.2 j57 p58.1.toNatClampNeg) = 0 then
          fX12_done n 209 r0 x1 x2 x3 0 0 0 0 p58.2 ρ
        else
          (ρ.1 r0 17).bind fun j62 =>
          (ρ.1 r0 60).bind fun j63 =>
          (gX12_cell r0 x1 (0 : Int32) x3 p58.2 ρ).bind fun p64 =>
          if ρ.2.1 j63 = 0 then
          if ¬ (p64.1 < 0 ∨ ρ.2.2.1 j63 ≤ p64.1.toNatClampNeg) then
          if ρ.2.1 j62 = 0 then
          if ¬ (x3 < 0 ∨ ρ.2.2.1 j62 ≤ x3.toNatClampNeg) then
          ao_let (ao_u p64.2 j62 x3.toNatClampNeg (p64.2 j63 p64.1.toNatClampNeg)) fun M69 =>
          (gX12_remember n r0 x3 M69 ρ).bind fun p70 =>
          fX12_done n 209 r0 x1 x2 x3 0 0 0 0 p70.1 p70.2
          else none
          else none
          else none
          else none
        else none
        else none
        else none
    else if pc = 209 then
      ao_let (x3 + (1 : Int32)) fun v71 =>
      fX12_done n 162 r0 x1 x2 v71 0 0 0 0 M ρ
    else if pc = 215 then
      fX12_done n 217 r0 x1 x2 (0 : Int32) 0 0 0 0 M ρ
    else if pc = 217 then
      if ρ.2.1 r0 = 22 then
      (ρ.1 r0 62).bind fun j73 =>
      (gX12_level r0 x1 (0 : Int32) M ρ).bind fun p74 =>
      if ρ.2.1 j73 = 0 then
      if ¬ (p74.1 < 0 ∨ ρ.2.2.1 j73 ≤ p74.1.toNatClampNeg) then
      if (p74.2 j73 p74.1.toNatClampNeg) ≤ x3 then
        (ρ.1 r0 34).bind fun j78 =>
        if ρ.2.1 j78 = 0 then
        if ¬ (x1 < 0 ∨ ρ.2.2.1 j78 ≤ x1.toNatClampNeg) then
        ao_let (ao_u p74.2 j78 x1.toNatClampNeg (0 : Int32)) fun M81 =>
        (gX12_clearLevel n r0 x1 (0 : Int32) M81 ρ).bind fun p82 =>
        (ρ.1 r0 40).bind fun j83 =>
        if ρ.2.1 j83 = 0 then
        if ¬ (x1 < 0 ∨ ρ.2.2.1 j83 ≤ x1.toNatClampNeg) then
        ao_let (ao_u p82 j83 x1.toNatClampNeg ((p82 j83 x1.toNatClampNeg) + (1 : Int32))) fun M86 =>
        (ρ.1 r0 29).bind fun j87 =>
        if ρ.2.1 j87 = 0 then
        if ¬ (x1 < 0 ∨ ρ.2.2.1 j87 ≤ x1.toNatClampNeg) then
        ao_let (ao_u M86 j87 x1.toNatClampNeg (1 : Int32)) fun M90 =>
        some (M90, ρ)
        else none
        else none
        else none
        else none
        else none
        else none
      else
        (ρ.1 r0 61).bind fun j91 =>
        (gX12_level r0 x1 (0 : Int32) p74.2 ρ).bind fun p92 =>
        if ρ.2.1 j91 = 0 then
        if ¬ (((p92.1 * (200 : Int32)) + x3) < 0 ∨ ρ.2.2.1 j91 ≤ ((p92.1 * (200 : Int32)) + x3).toNatClampNeg) then
        (gX12_say r0 x1 (p92.2 j91 ((p92.1 * (200 : Int32)) + x3).toNatClampNeg) p92.2 ρ).bind fun p95 =>
        ao_let (x3 + (1 : Int32)) fun v96 =>
        fX12_done n 217 r0 x1 x2 v96 0 0 0 0 p95 ρ
        else none
        else none
      else none
      else none
      else none
    else none
def gX12_done (n : Nat) (r0 : Nat) (x1 : Int32) (M : ao_M) (ρ : ao_H) : Option (ao_S) := fX12_done n 0 r0 x1 0 0 0 0 0 0 M ρ
set_option maxRecDepth 100000 in
set_option maxHeartbeats 4000000 in
theorem mX12_done : ∀ n : Nat, (∀ (r0 : Nat) (x1 : Int32) (M : ao_M) (ρ : ao_H) (y : ao_S), fX12_done n 0 r0 x1 0 0 0 0 0 0 M ρ = some y → ao_le ρ y.2) ∧ (∀ (r0 : Nat) (x1 : Int32) (x2 : Int32) (x3 : Int32) (M : ao_M) (ρ : ao_H) (y : ao_S), fX12_done n 14 r0 x1 x2 x3 0 0 0 0 M ρ = some y → ao_le ρ y.2) ∧ (∀ (r0 : Nat) (x1 : Int32) (x2 : Int32) (x3 : Int32) (x4 : Int32) (s0 : Int32) (s1 : Int32) (q2 : Nat) (M : ao_M) (ρ : ao_H) (y : ao_S), fX12_done n 120 r0 x1 x2 x3 x4 s0 s1 q2 M ρ = some y → ao_le ρ y.2) ∧ (∀ (r0 : Nat) (x1 : Int32) (x2 : Int32) (x3 : Int32) (M : ao_M) (ρ : ao_H) (y : ao_S), fX12_done n 127 r0 x1 x2 x3 0 0 0 0 M ρ = some y → ao_le ρ y.2) ∧ (∀ (r0 : Nat) (x1 : Int32) (x2 : Int32) (x3 : Int32) (M : ao_M) (ρ : ao_H) (y : ao_S), fX12_done n 139 r0 x1 x2 x3 0 0 0 0 M ρ = some y → ao_le ρ y.2) ∧ (∀ (r0 : Nat) (x1 : Int32) (x2 : Int32) (x3 : Int32) (M : ao_M) (ρ : ao_H) (y : ao_S), fX12_done n 162 r0 x1 x2 x3 0 0 0 0 M ρ = some y → ao_le ρ y.2) ∧ (∀ (r0 : Nat) (x1 : Int32) (x2 : Int32) (x3 : Int32) (M : ao_M) (ρ : ao_H) (y : ao_S), fX12_done n 209 r0 x1 x2 x3 0 0 0 0 M ρ = some y → ao_le ρ y.2) ∧ (∀ (r0 : Nat) (x1 : Int32) (x2 : Int32) (x3 : Int32) (M : ao_M) (ρ : ao_H) (y : ao_S), fX12_done n 215 r0 x1 x2 x3 0 0 0 0 M ρ = some y → ao_le ρ y.2) ∧ (∀ (r0 : Nat) (x1 : Int32) (x2 : Int32) (x3 : Int32) (M : ao_M) (ρ : ao_H) (y : ao_S), fX12_done n 217 r0 x1 x2 x3 0 0 0 0 M ρ = some y → ao_le ρ y.2) := by
  intro n
  induction n with
  | zero => exact ⟨fun _ _ _ _ _ h => ao_no h, fun _ _ _ _ _ _ _ h => ao_no h, fun _ _ _ _ _ _ _ _ _ _ _ h => ao_no h, fun _ _ _ _ _ _ _ h => ao_no h, fun _ _ _ _ _ _ _ h => ao_no h, fun _ _ _ _ _ _ _ h => ao_no h, fun _ _ _ _ _ _ _ h => ao_no h, fun _ _ _ _ _ _ _ h => ao_no h, fun _ _ _ _ _ _ _ h => ao_no h⟩
  | succ n ih =>
    refine ⟨?_, ?_, ?_, ?_, ?_, ?_, ?_, ?_, ?_⟩
    · intro r0 x1 M ρ y h
      replace h := ao_ifT h rfl
      obtain ⟨-, h⟩ := ao_some h
      obtain ⟨j2, hj2, h⟩ := ao_bind h
      obtain ⟨-, h⟩ := ao_some h
      obtain ⟨-, h⟩ := ao_some h
      obtain ⟨p5, hp5, h⟩ := ao_bind h
      replace h := ao_letD h rfl
      generalize p5.1 = v6 at h
      exact ih.2.1 r0 x1 v6 (0 : Int32) p5.2 ρ _ h
    · intro r0 x1 x2 x3 M ρ y h
      replace h := ao_ifF h (by decide)
      replace h := ao_ifT h rfl
      rcases ao_ifC h with h | h
      · exact ih.2.2.2.1 r0 x1 x2 x3 M ρ _ h
      · rcases ao_ifC h with h | h
        · exact ih.2.2.2.1 r0 x1 x2 x3 M ρ _ h
        · obtain ⟨-, h⟩ := ao_some h
          obtain ⟨p10, hp10, h⟩ := ao_bind h
          replace h := ao_letD h rfl
          generalize p10.1 = v11 at h
          obtain ⟨j12, hj12, h⟩ := ao_bind h
          obtain ⟨j13, hj13, h⟩ := ao_bind h
          obtain ⟨-, h⟩ := ao_some h
          obtain ⟨-, h⟩ := ao_some h
          obtain ⟨-, h⟩ := ao_some h
          obtain ⟨-, h⟩ := ao_some h
          obtain ⟨-, h⟩ := ao_some h
          replace h := ao_letD h rfl
          generalize (ao_u p10.2 j12 ((x2 * (26 : Int32)) + x3).toNatClampNeg (p10.2 j13 v11.toNatClampNeg)) = M19 at h
          obtain ⟨j20, hj20, h⟩ := ao_bind h
          obtain ⟨j21, hj21, h⟩ := ao_bind h
          obtain ⟨-, h⟩ := ao_some h
          obtain ⟨-, h⟩ := ao_some h
          obtain ⟨-, h⟩ := ao_some h
          obtain ⟨-, h⟩ := ao_some h
          replace h := ao_letD h rfl
          generalize (ao_u M19 j20 ((x2 * (26 : Int32)) + x3).toNatClampNeg (M19 j21 v11.toNatClampNeg)) = M26 at h
          obtain ⟨j27, hj27, h⟩ := ao_bind h
          obtain ⟨j28, hj28, h⟩ := ao_bind h
          obtain ⟨-, h⟩ := ao_some h
          obtain ⟨-, h⟩ := ao_some h
          obtain ⟨-, h⟩ := ao_some h
          obtain ⟨-, h⟩ := ao_some h
          obtain ⟨-, h⟩ := ao_some h
          replace h := ao_letD h rfl
          generalize (ao_u M26 j27 ((x2 * (26 : Int32)) + x3).toNatClampNeg (M26 j28 v11.toNatClampNeg)) = M34 at h
          obtain ⟨j35, hj35, h⟩ := ao_bind h
          obtain ⟨p36, hp36, h⟩ := ao_bind h
          rcases ao_ifC h with h | h
          · obtain ⟨j38, hj38, h⟩ := ao_bind h
            obtain ⟨-, h⟩ := ao_some h
            obtain ⟨-, h⟩ := ao_some h
            exact ih.2.2.1 r0 x1 x2 x3 v11 (p36.2 j38 v11.toNatClampNeg) ((x2 * (26 : Int32)) + x3) j35 p36.2 ρ _ h
          · obtain ⟨j41, hj41, h⟩ := ao_bind h
            obtain ⟨-, h⟩ := ao_some h
            obtain ⟨-, h⟩ := ao_some h
            exact ih.2.2.1 r0 x1 x2 x3 v11 (p36.2 j41 x3.toNatClampNeg) ((x2 * (26 : Int32)) + x3) j35 p36.2 ρ _ h
    · intro r0 x1 x2 x3 x4 s0 s1 q2 M ρ y h
      replace h := ao_ifF h (by decide)
      replace h := ao_ifF h (by decide)
      replace h := ao_ifT h rfl
      obtain ⟨-, h⟩ := ao_some h
      obtain ⟨-, h⟩ := ao_some h
      replace h := ao_letD h rfl
      generalize (ao_u M q2 s1.toNatClampNeg s0) = M46 at h
      replace h := ao_letD h rfl
      generalize (x3 + (1 : Int32)) = v47 at h
      exact ih.2.1 r0 x1 x2 v47 M46 ρ _ h
    · intro r0 x1 x2 x3 M ρ y h
      replace h := ao_ifF h (by decide)
      replace h := ao_ifF h (by decide)
      replace h := ao_ifF h (by decide)
      replace h := ao_ifT h rfl
      obtain ⟨-, h⟩ := ao_some h
      obtain ⟨p49, hp49, h⟩ := ao_bind h
      rcases ao_ifC h with h | h
      · obtain ⟨p51, hp51, h⟩ := ao_bind h
        rcases ao_ifC h with h | h
        · exact ih.2.2.2.2.2.2.2.1 r0 x1 x2 x3 p51.2 ρ _ h
        · replace h := ao_letD h rfl
          generalize (ao_u p51.2 r0 26 ((p51.2 r0 26) + (1 : Int32))) = M53 at h
          exact ih.2.2.2.2.2.1 r0 x1 x2 (0 : Int32) M53 ρ _ h
      · obtain ⟨p54, hp54, h⟩ := ao_bind h
        exact ao_le_tr (me_X12_free n r0 x1 p49.2 ρ hp54) (ih.2.2.2.2.1 r0 x1 x2 x3 p54.1 p54.2 _ h)
    · intro r0 x1 x2 x3 M ρ y h
      replace h := ao_ifF h (by decide)
      replace h := ao_ifF h (by decide)
      replace h := ao_ifF h (by decide)
      replace h := ao_ifF h (by decide)
      replace h := ao_ifT h rfl
      exact ih.2.2.2.2.2.2.2.1 r0 x1 x2 x3 M ρ _ h
    · intro r0 x1 x2 x3 M ρ y h
      replace h := ao_ifF h (by decide)
      replace h := ao_ifF h (by decide)
      replace h := ao_ifF h (by decide)
      replace h := ao_ifF h (by decide)
      replace h := ao_ifF h (by decide)
      replace h := ao_ifT h rfl
      rcases ao_ifC h with h | h
      · exact ih.2.2.2.2.2.2.2.1 r0 x1 x2 x3 M ρ _ h
      · obtain ⟨-, h⟩ := ao_some h
        obtain ⟨j57, hj57, h⟩ := ao_bind h
        obtain ⟨p58, hp58, h⟩ := ao_bind h
        obtain ⟨-, h⟩ := ao_some h
        obtain ⟨-, h⟩ := ao_some h
        rcases ao_ifC h with h | h
        · exact ih.2.2.2.2.2.2.1 r0 x1 x2 x3 p58.2 ρ _ h
        · obtain ⟨j62, hj62, h⟩ := ao_bind h
          obtain ⟨j63, hj63, h⟩ := ao_bind h
          obtain ⟨p64, hp64, h⟩ := ao_bind h
          obtain ⟨-, h⟩ := ao_some h
          obtain ⟨-, h⟩ := ao_some h
          obtain ⟨-, h⟩ := ao_some h
          obtain ⟨-, h⟩ := ao_some h
          replace h := ao_letD h rfl
          generalize (ao_u p64.2 j62 x3.toNatClampNeg (p64.2 j63 p64.1.toNatClampNeg)) = M69 at h
          obtain ⟨p70, hp70, h⟩ := ao_bind h
          exact ao_le_tr (me_X12_remember n r0 x3 M69 ρ hp70) (ih.2.2.2.2.2.2.1 r0 x1 x2 x3 p70.1 p70.2 _ h)
    · intro r0 x1 x2 x3 M ρ y h
      replace h := ao_ifF h (by decide)
      replace h := ao_ifF h (by decide)
      replace h := ao_ifF h (by decide)
      replace h := ao_ifF h (by decide)
      replace h := ao_ifF h (by decide)
      replace h := ao_ifF h (by decide)
      replace h := ao_ifT h rfl
      replace h := ao_letD h rfl
      generalize (x3 + (1 : Int32)) = v71 at h
      exact ih.2.2.2.2.2.1 r0 x1 x2 v71 M ρ _ h
    · intro r0 x1 x2 x3 M ρ y h
      replace h := ao_ifF h (by decide)
      replace h := ao_ifF h (by decide)
      replace h := ao_ifF h (by decide)
      replace h := ao_ifF h (by decide)
      replace h := ao_ifF h (by decide)
      replace h := ao_ifF h (by decide)
      replace h := ao_ifF h (by decide)
      replace h := ao_ifT h rfl
      exact ih.2.2.2.2.2.2.2.2 r0 x1 x2 (0 : Int32) M ρ _ h
    · intro r0 x1 x2 x3 M ρ y h
      replace h := ao_ifF h (by decide)
      replace h := ao_ifF h (by decide)
      replace h := ao_ifF h (by decide)
      replace h := ao_ifF h (by decide)
      replace h := ao_ifF h (by decide)
      replace h := ao_ifF h (by decide)
      replace h := ao_ifF h (by decide)
      replace h := ao_ifF h (by decide)
      replace h := ao_ifT h rfl
      obtain ⟨-, h⟩ := ao_some h
      obtain ⟨j73, hj73, h⟩ := ao_bind h
      obtain ⟨p74, hp74, h⟩ := ao_bind h
      obtain ⟨-, h⟩ := ao_some h
      obtain ⟨-, h⟩ := ao_some h
      rcases ao_ifC h with h | h
      · obtain ⟨j78, hj78, h⟩ := ao_bind h
        obtain ⟨-, h⟩ := ao_some h
        obtain ⟨-, h⟩ := ao_some h
        replace h := ao_letD h rfl
        generalize (ao_u p74.2 j78 x1.toNatClampNeg (0 : Int32)) = M81 at h
        obtain ⟨p82, hp82, h⟩ := ao_bind h
        obtain ⟨j83, hj83, h⟩ := ao_bind h
        obtain ⟨-, h⟩ := ao_some h
        obtain ⟨-, h⟩ := ao_some h
        replace h := ao_letD h rfl
        generalize (ao_u p82 j83 x1.toNatClampNeg ((p82 j83 x1.toNatClampNeg) + (1 : Int32))) = M86 at h
        obtain ⟨j87, hj87, h⟩ := ao_bind h
        obtain ⟨-, h⟩ := ao_some h
        obtain ⟨-, h⟩ := ao_some h
        replace h := ao_letD h rfl
        generalize (ao_u M86 j87 x1.toNatClampNeg (1 : Int32)) = M90 at h
        cases h
        exact ao_le_rf _
      · obtain ⟨j91, hj91, h⟩ := ao_bind h
        obtain ⟨p92, hp92, h⟩ := ao_bind h
        obtain ⟨-, h⟩ := ao_some h
        obtain ⟨-, h⟩ := ao_some h
        obtain ⟨p95, hp95, h⟩ := ao_bind h
        replace h := ao_letD h rfl
        generalize (x3 + (1 : Int32)) = v96 at h
        exact ih.2.2.2.2.2.2.2.2 r0 x1 x2 v96 p95 ρ _ h
set_option maxRecDepth 100000 in
set_option maxHeartbeats 4000000 in
theorem wX12_done {Γ : ao_C} (d : Nat) (hd : 3 ≤ d) (MC MS : Nat) : ∀ n : Nat, (∀ (r0 : Nat) (x1 : Int32) (M : ao_M) (ρ : ao_H) (y : ao_S), fX12_done n 0 r0 x1 0 0 0 0 0 0 M ρ = some y → ao_W Γ uX12_done (ao_rm d MC MS) (ao_Q Γ (ao_QV y) MC MS) (ao_dc ρ y.2) (ao_ds ρ y.2) 0 [some (.ref (Γ.2.2.2 + r0)), some (.int x1), none, none, none] [] (M, ρ)) ∧ (∀ (r0 : Nat) (x1 : Int32) (x2 : Int32) (x3 : Int32) (M : ao_M) (ρ : ao_H) (y : ao_S), fX12_done n 14 r0 x1 x2 x3 0 0 0 0 M ρ = some y → ao_W Γ uX12_done (ao_rm d MC MS) (ao_Q Γ (ao_QV y) MC MS) (ao_dc ρ y.2) (ao_ds ρ y.2) 14 [some (.ref (Γ.2.2.2 + r0)), some (.int x1), some (.int x2), some (.int x3), none] [] (M, ρ)) ∧ (∀ (r0 : Nat) (x1 : Int32) (x2 : Int32) (x3 : Int32) (x4 : Int32) (s0 : Int32) (s1 : Int32) (q2 : Nat) (M : ao_M) (ρ : ao_H) (y : ao_S), fX12_done n 120 r0 x1 x2 x3 x4 s0 s1 q2 M ρ = some y → ao_W Γ uX12_done (ao_rm d MC MS) (ao_Q Γ (ao_QV y) MC MS) (ao_dc ρ y.2) (ao_ds ρ y.2) 120 [some (.ref (Γ.2.2.2 + r0)), some (.int x1), some (.int x2), some (.int x3), some (.int x4)] [.int s0, .int s1, .ref (Γ.2.2.2 + q2)] (M, ρ)) ∧ (∀ (r0 : Nat) (x1 : Int32) (x2 : Int32) (x3 : Int32) (M : ao_M) (ρ : ao_H) (y : ao_S), fX12_done n 127 r0 x1 x2 x3 0 0 0 0 M ρ = some y → ao_W Γ uX12_done (ao_rm d MC MS) (ao_Q Γ (ao_QV y) MC MS) (ao_dc ρ y.2) (ao_ds ρ y.2) 127 [some (.ref (Γ.2.2.2 + r0)), some (.int x1), some (.int x2), some (.int x3), none] [] (M, ρ)) ∧ (∀ (r0 : Nat) (x1 : Int32) (x2 : Int32) (x3 : Int32) (M : ao_M) (ρ : ao_H) (y : ao_S), fX12_done n 139 r0 x1 x2 x3 0 0 0 0 M ρ = some y → ao_W Γ uX12_done (ao_rm d MC MS) (ao_Q Γ (ao_QV y) MC MS) (ao_dc ρ y.2) (ao_ds ρ y.2) 139 [some (.ref (Γ.2.2.2 + r0)), some (.int x1), some (.int x2), some (.int x3), none] [] (M, ρ)) ∧ (∀ (r0 : Nat) (x1 : Int32) (x2 : Int32) (x3 : Int32) (M : ao_M) (ρ : ao_H) (y : ao_S), fX12_done n 162 r0 x1 x2 x3 0 0 0 0 M ρ = some y → ao_W Γ uX12_done (ao_rm d MC MS) (ao_Q Γ (ao_QV y) MC MS) (ao_dc ρ y.2) (ao_ds ρ y.2) 162 [some (.ref (Γ.2.2.2 + r0)), some (.int x1), some (.int x2), some (.int x3), none] [] (M, ρ)) ∧ (∀ (r0 : Nat) (x1 : Int32) (x2 : Int32) (x3 : Int32) (M : ao_M) (ρ : ao_H) (y : ao_S), fX12_done n 209 r0 x1 x2 x3 0 0 0 0 M ρ = some y → ao_W Γ uX12_done (ao_rm d MC MS) (ao_Q Γ (ao_QV y) MC MS) (ao_dc ρ y.2) (ao_ds ρ y.2) 209 [some (.ref (Γ.2.2.2 + r0)), some (.int x1), some (.int x2), some (.int x3), none] [] (M, ρ)) ∧ (∀ (r0 : Nat) (x1 : Int32) (x2 : Int32) (x3 : Int32) (M : ao_M) (ρ : ao_H) (y : ao_S), fX12_done n 215 r0 x1 x2 x3 0 0 0 0 M ρ = some y → ao_W Γ uX12_done (ao_rm d MC MS) (ao_Q Γ (ao_QV y) MC MS) (ao_dc ρ y.2) (ao_ds ρ y.2) 215 [some (.ref (Γ.2.2.2 + r0)), some (.int x1), some (.int x2), some (.int x3), none] [] (M, ρ)) ∧ (∀ (r0 : Nat) (x1 : Int32) (x2 : Int32) (x3 : Int32) (M : ao_M) (ρ : ao_H) (y : ao_S), fX12_done n 217 r0 x1 x2 x3 0 0 0 0 M ρ = some y → ao_W Γ uX12_done (ao_rm d MC MS) (ao_Q Γ (ao_QV y) MC MS) (ao_dc ρ y.2) (ao_ds ρ y.2) 217 [some (.ref (Γ.2.2.2 + r0)), some (.int x1), some (.int x2), some (.int x3), none] [] (M, ρ)) := by
  intro n
  induction n with
  | zero => exact ⟨fun _ _ _ _ _ h => ao_no h, fun _ _ _ _ _ _ _ h => ao_no h, fun _ _ _ _ _ _ _ _ _ _ _ h => ao_no h, fun _ _ _ _ _ _ _ h => ao_no h, fun _ _ _ _ _ _ _ h => ao_no h, fun _ _ _ _ _ _ _ h => ao_no h, fun _ _ _ _ _ _ _ h => ao_no h, fun _ _ _ _ _ _ _ h => ao_no h, fun _ _ _ _ _ _ _ h => ao_no h⟩
  | succ n ih =>
    refine ⟨?_, ?_, ?_, ?_, ?_, ?_, ?_, ?_, ?_⟩
    · intro r0 x1 M ρ y h
      replace h := ao_ifT h rfl
      refine ao_aload_n 0 dX12_done_0 rfl rfl ?_
      refine ao_iload_n 1 dX12_done_1 rfl rfl ?_
      refine ao_aload_n 0 dX12_done_2 rfl rfl ?_
      obtain ⟨hk1, h⟩ := ao_some h
      obtain ⟨j2, hj2, h⟩ := ao_bind h
      refine an_getR r0 12 42 (q := (RX12, TX12, 83)) dX12_done_3 rfl hk1 (Nat.le_of_ble_eq_true rfl) rfl lf_X12_226 hj2 ?_
      refine ao_iload_n 1 dX12_done_6 rfl rfl ?_
      obtain ⟨hk3, h⟩ := ao_some h
      obtain ⟨hb4, h⟩ := ao_some h
      refine an_iaload j2 dX12_done_7 hk3 hb4 ?_
      obtain ⟨p5, hp5, h⟩ := ao_bind h
      refine an_callVi r0 12 (q := (RX12, TX12, 83)) [.int x1, .int (M j2 x1.toNatClampNeg)] (aX12_newRecord (d - 1) (by omega) _ r0 x1 (M j2 x1.toNatClampNeg) M ρ hp5) dX12_done_8 lc_X12_425 li_X12_newRecord ls_X12_newRecord rfl hk1 rfl rfl (Nat.le_of_ble_eq_true rfl) (ao_hR (by omega) (by decide)) ?_
      refine an_topi (fun v6 hv6 => ?_)
      replace h := ao_letD h hv6
      refine ao_istore_n 2 (lo' := [some (.ref (Γ.2.2.2 + r0)), some (.int x1), some (.int v6), none, none]) dX12_done_11 rfl (Nat.le_of_ble_eq_true rfl) rfl ?_
      refine ao_iconst (v := 0) dX12_done_12 (by decide) ?_
      refine ao_istore_n 3 (lo' := [some (.ref (Γ.2.2.2 + r0)), some (.int x1), some (.int v6), some (.int (0 : Int32)), none]) dX12_done_13 rfl (Nat.le_of_ble_eq_true rfl) rfl ?_
      exact ih.2.1 r0 x1 v6 (0 : Int32) p5.2 ρ _ h
    · intro r0 x1 x2 x3 M ρ y h
      replace h := ao_ifF h (by decide)
      replace h := ao_ifT h rfl
      refine ao_iload_n 3 dX12_done_14 rfl rfl ?_
      refine ao_bipush (v := 26) dX12_done_15 (by decide) ?_
      refine ao_icmp_ge 127 dX12_done_17 (by decide) (fun c7 => ?_) (fun c7 => ?_)
      · replace h := ao_ifT h c7
        exact ih.2.2.2.1 r0 x1 x2 x3 M ρ _ h
      · replace h := ao_ifF h c7
        refine ao_iload_n 2 dX12_done_20 rfl rfl ?_
        refine ao_if_lt 127 dX12_done_21 (by decide) (fun c8 => ?_) (fun c8 => ?_)
        · replace h := ao_ifT h c8
          exact ih.2.2.2.1 r0 x1 x2 x3 M ρ _ h
        · replace h := ao_ifF h c8
          refine ao_aload_n 0 dX12_done_24 rfl rfl ?_
          refine ao_iload_n 1 dX12_done_25 rfl rfl ?_
          refine ao_iconst (v := 0) dX12_done_26 (by decide) ?_
          refine ao_iload_n 3 dX12_done_27 rfl rfl ?_
          obtain ⟨hk9, h⟩ := ao_some h
          obtain ⟨p10, hp10, h⟩ := ao_bind h
          refine an_callVi r0 12 (q := (RX12, TX12, 83)) [.int x1, .int (0 : Int32), .int x3] (aX12_cell (d - 1) (by omega) r0 x1 (0 : Int32) x3 M ρ hp10) dX12_done_28 lc_X12_357 li_X12_cell ls_X12_cell rfl hk9 rfl rfl (Nat.le_of_ble_eq_true rfl) (ao_hR (by omega) (by decide)) ?_
          refine an_topi (fun v11 hv11 => ?_)
          replace h := ao_letD h hv11
          refine ao_istore 4 (lo' := [some (.ref (Γ.2.2.2 + r0)), some (.int x1), some (.int x2), some (.int x3), some (.int v11)]) dX12_done_31 (Nat.le_of_ble_eq_true rfl) rfl ?_
          refine ao_aload_n 0 dX12_done_33 rfl rfl ?_
          obtain ⟨j12, hj12, h⟩ := ao_bind h
          refine an_getR r0 12 74 (q := (RX12, TX12, 83)) dX12_done_34 rfl hk9 (Nat.le_of_ble_eq_true rfl) rfl lf_X12_311 hj12 ?_
          refine ao_iload_n 2 dX12_done_37 rfl rfl ?_
          refine ao_bipush (v := 26) dX12_done_38 (by decide) ?_
          refine ao_imul dX12_done_40 ?_
          refine ao_iload_n 3 dX12_done_41 rfl rfl ?_
          refine ao_iadd dX12_done_42 ?_
          refine ao_aload_n 0 dX12_done_43 rfl rfl ?_
          obtain ⟨j13, hj13, h⟩ := ao_bind h
          refine an_getR r0 12 55 (q := (RX12, TX12, 83)) dX12_done_44 rfl hk9 (Nat.le_of_ble_eq_true rfl) rfl lf_X12_266 hj13 ?_
          refine ao_iload 4 dX12_done_47 rfl ?_
          obtain ⟨hk14, h⟩ := ao_some h
          obtain ⟨hb15, h⟩ := ao_some h
          refine an_zaload j13 dX12_done_49 hk14 hb15 ?_
          obtain ⟨hz16, h⟩ := ao_some h
          obtain ⟨hk17, h⟩ := ao_some h
          obtain ⟨hb18, h⟩ := ao_some h
          refine an_zastore j12 dX12_done_50 hk17 hb18 (ao_nb hz16) (fun M19 hM19 => ?_)
          replace h := ao_letD h hM19
          refine ao_aload_n 0 dX12_done_51 rfl rfl ?_
          obtain ⟨j20, hj20, h⟩ := ao_bind h
          refine an_getR r0 12 72 (q := (RX12, TX12, 83)) dX12_done_52 rfl hk9 (Nat.le_of_ble_eq_true rfl) rfl lf_X12_305 hj20 ?_
          refine ao_iload_n 2 dX12_done_55 rfl rfl ?_
          refine ao_bipush (v := 26) dX12_done_56 (by decide) ?_
          refine ao_imul dX12_done_58 ?_
          refine ao_iload_n 3 dX12_done_59 rfl rfl ?_
          refine ao_iadd dX12_done_60 ?_
          refine ao_aload_n 0 dX12_done_61 rfl rfl ?_
          obtain ⟨j21, hj21, h⟩ := ao_bind h
          refine an_getR r0 12 57 (q := (RX12, TX12, 83)) dX12_done_62 rfl hk9 (Nat.le_of_ble_eq_true rfl) rfl lf_X12_272 hj21 ?_
          refine ao_iload 4 dX12_done_65 rfl ?_
          obtain ⟨hk22, h⟩ := ao_some h
          obtain ⟨hb23, h⟩ := ao_some h
          refine an_iaload j21 dX12_done_67 hk22 hb23 ?_
          obtain ⟨hk24, h⟩ := ao_some h
          obtain ⟨hb25, h⟩ := ao_some h
          refine an_iastore j20 dX12_done_68 hk24 hb25 (fun M26 hM26 => ?_)
          replace h := ao_letD h hM26
          refine ao_aload_n 0 dX12_done_69 rfl rfl ?_
          obtain ⟨j27, hj27, h⟩ := ao_bind h
          refine an_getR r0 12 75 (q := (RX12, TX12, 83)) dX12_done_70 rfl hk9 (Nat.le_of_ble_eq_true rfl) rfl lf_X12_314 hj27 ?_
          refine ao_iload_n 2 dX12_done_73 rfl rfl ?_
          refine ao_bipush (v := 26) dX12_done_74 (by decide) ?_
          refine ao_imul dX12_done_76 ?_
          refine ao_iload_n 3 dX12_done_77 rfl rfl ?_
          refine ao_iadd dX12_done_78 ?_
          refine ao_aload_n 0 dX12_done_79 rfl rfl ?_
          obtain ⟨j28, hj28, h⟩ := ao_bind h
          refine an_getR r0 12 56 (q := (RX12, TX12, 83)) dX12_done_80 rfl hk9 (Nat.le_of_ble_eq_true rfl) rfl lf_X12_269 hj28 ?_
          refine ao_iload 4 dX12_done_83 rfl ?_
          obtain ⟨hk29, h⟩ := ao_some h
          obtain ⟨hb30, h⟩ := ao_some h
          refine an_zaload j28 dX12_done_85 hk29 hb30 ?_
          obtain ⟨hz31, h⟩ := ao_some h
          obtain ⟨hk32, h⟩ := ao_some h
          obtain ⟨hb33, h⟩ := ao_some h
          refine an_zastore j27 dX12_done_86 hk32 hb33 (ao_nb hz31) (fun M34 hM34 => ?_)
          replace h := ao_letD h hM34
          refine ao_aload_n 0 dX12_done_87 rfl rfl ?_
          obtain ⟨j35, hj35, h⟩ := ao_bind h
          refine an_getR r0 12 73 (q := (RX12, TX12, 83)) dX12_done_88 rfl hk9 (Nat.le_of_ble_eq_true rfl) rfl lf_X12_308 hj35 ?_
          refine ao_iload_n 2 dX12_done_91 rfl rfl ?_
          refine ao_bipush (v := 26) dX12_done_92 (by decide) ?_
          refine ao_imul dX12_done_94 ?_
          refine ao_iload_n 3 dX12_done_95 rfl rfl ?_
          refine ao_iadd dX12_done_96 ?_
          refine ao_aload_n 0 dX12_done_97 rfl rfl ?_
          obtain ⟨p36, hp36, h⟩ := ao_bind h
          refine an_callVi r0 12 (q := (RX12, TX12, 83)) [] (aX12_isEager (d - 1) (by omega) _ r0 M34 ρ hp36) dX12_done_98 lc_X12_369 li_X12_isEager ls_X12_isEager rfl hk9 rfl rfl (Nat.le_of_ble_eq_true rfl) (ao_hR (by omega) (by decide)) ?_
          refine ao_if_eq 113 dX12_done_101 (by decide) (fun c37 => ?_) (fun c37 => ?_)
          · replace h := ao_ifT h c37
            refine ao_aload_n 0 dX12_done_113 rfl rfl ?_
            obtain ⟨j38, hj38, h⟩ := ao_bind h
            refine an_getR r0 12 60 (q := (RX12, TX12, 83)) dX12_done_114 rfl hk9 (Nat.le_of_ble_eq_true rfl) rfl lf_X12_281 hj38 ?_
            refine ao_iload 4 dX12_done_117 rfl ?_
            obtain ⟨hk39, h⟩ := ao_some h
            obtain ⟨hb40, h⟩ := ao_some h
            refine an_iaload j38 dX12_done_119 hk39 hb40 ?_
            exact ih.2.2.1 r0 x1 x2 x3 v11 (p36.2 j38 v11.toNatClampNeg) ((x2 * (26 : Int32)) + x3) j35 p36.2 ρ _ h
          · replace h := ao_ifF h c37
            refine ao_aload_n 0 dX12_done_104 rfl rfl ?_
            obtain ⟨j41, hj41, h⟩ := ao_bind h
            refine an_getR r0 12 17 (q := (RX12, TX12, 83)) dX12_done_105 rfl hk9 (Nat.le_of_ble_eq_true rfl) rfl lf_X12_151 hj41 ?_
            refine ao_iload_n 3 dX12_done_108 rfl rfl ?_
            obtain ⟨hk42, h⟩ := ao_some h
            obtain ⟨hb43, h⟩ := ao_some h
            refine an_iaload j41 dX12_done_109 hk42 hb43 ?_
            refine ao_goto 120 dX12_done_110 (by decide) ?_
            exact ih.2.2.1 r0 x1 x2 x3 v11 (p36.2 j41 x3.toNatClampNeg) ((x2 * (26 : Int32)) + x3) j35 p36.2 ρ _ h
    · intro r0 x1 x2 x3 x4 s0 s1 q2 M ρ y h
      replace h := ao_ifF h (by decide)
      replace h := ao_ifF h (by decide)
      replace h := ao_ifT h rfl
      obtain ⟨hk44, h⟩ := ao_some h
      obtain ⟨hb45, h⟩ := ao_some h
      refine an_iastore q2 dX12_done_120 hk44 hb45 (fun M46 hM46 => ?_)
      replace h := ao_letD h hM46
      obtain ⟨v47, hv47⟩ : ∃ z : Int32, z = x3 + (1 : Int32) := ⟨_, rfl⟩
      replace h := ao_letD h hv47
      refine ao_iinc 3 (v := v47) (lo' := [some (.ref (Γ.2.2.2 + r0)), some (.int x1), some (.int x2), some (.int v47), some (.int x4)]) dX12_done_121 rfl (by rw [hv47]; rfl) (Nat.le_of_ble_eq_true rfl) rfl ?_
      refine ao_goto 14 dX12_done_124 (by decide) ?_
      refine ao_loForget (lo' := [some (.ref (Γ.2.2.2 + r0)), some (.int x1), some (.int x2), some (.int v47), none]) (ao_fgS (ao_fgS (ao_fgS (ao_fgS (ao_fgN ao_fgZ))))) ?_
      exact ih.2.1 r0 x1 x2 v47 M46 ρ _ h
    · intro r0 x1 x2 x3 M ρ y h
      replace h := ao_ifF h (by decide)
      replace h := ao_ifF h (by decide)
      replace h := ao_ifF h (by decide)
      replace h := ao_ifT h rfl
      refine ao_aload_n 0 dX12_done_127 rfl rfl ?_
      obtain ⟨hk48, h⟩ := ao_some h
      obtain ⟨p49, hp49, h⟩ := ao_bind h
      refine an_callVi r0 12 (q := (RX12, TX12, 83)) [] (aX12_isEager (d - 1) (by omega) _ r0 M ρ hp49) dX12_done_128 lc_X12_369 li_X12_isEager ls_X12_isEager rfl hk48 rfl rfl (Nat.le_of_ble_eq_true rfl) (ao_hR (by omega) (by decide)) ?_
      refine ao_if_eq 142 dX12_done_131 (by decide) (fun c50 => ?_) (fun c50 => ?_)
      · replace h := ao_ifT h c50
        refine ao_aload_n 0 dX12_done_142 rfl rfl ?_
        refine ao_iload_n 1 dX12_done_143 rfl rfl ?_
        obtain ⟨p51, hp51, h⟩ := ao_bind h
        refine an_callVi r0 12 (q := (RX12, TX12, 83)) [.int x1] (aX12_hasWrites (d - 1) (by omega) _ r0 x1 p49.2 ρ hp51) dX12_done_144 lc_X12_422 li_X12_hasWrites ls_X12_hasWrites rfl hk48 rfl rfl (Nat.le_of_ble_eq_true rfl) (ao_hR (by omega) (by decide)) ?_
        refine ao_if_eq 215 dX12_done_147 (by decide) (fun c52 => ?_) (fun c52 => ?_)
        · replace h := ao_ifT h c52
          exact ih.2.2.2.2.2.2.2.1 r0 x1 x2 x3 p51.2 ρ _ h
        · replace h := ao_ifF h c52
          refine ao_aload_n 0 dX12_done_150 rfl rfl ?_
          refine ao_dup dX12_done_151 rfl ?_
          refine an_getI r0 12 26 (q := (RX12, TX12, 83)) dX12_done_152 rfl hk48 (Nat.le_of_ble_eq_true rfl) rfl lf_X12_148 ?_
          refine ao_iconst (v := 1) dX12_done_155 (by decide) ?_
          refine ao_iadd dX12_done_156 ?_
          refine an_putI r0 12 26 (q := (RX12, TX12, 83)) dX12_done_157 rfl hk48 (Nat.le_of_ble_eq_true rfl) lf_X12_148 rfl rfl rfl rfl (fun M53 hM53 => ?_)
          replace h := ao_letD h hM53
          refine ao_iconst (v := 0) dX12_done_160 (by decide) ?_
          refine ao_istore_n 3 (lo' := [some (.ref (Γ.2.2.2 + r0)), some (.int x1), some (.int x2), some (.int (0 : Int32)), none]) dX12_done_161 rfl (Nat.le_of_ble_eq_true rfl) rfl ?_
          exact ih.2.2.2.2.2.1 r0 x1 x2 (0 : Int32) M53 ρ _ h
      · replace h := ao_ifF h c50
        refine ao_aload_n 0 dX12_done_134 rfl rfl ?_
        refine ao_iload_n 1 dX12_done_135 rfl rfl ?_
        obtain ⟨p54, hp54, h⟩ := ao_bind h
        refine ba_callVv r0 12 (q := (RX12, TX12, 83)) [.int x1] (aX12_free (d - 1) (by omega) n r0 x1 p49.2 ρ hp54) dX12_done_136 lc_X12_386 li_X12_free ls_X12_free rfl hk48 rfl rfl (Nat.le_of_ble_eq_true rfl) (ao_hR (by omega) (by decide)) (ao_leC (me_X12_free n r0 x1 p49.2 ρ hp54) ((mX12_done n).2.2.2.2.1 r0 x1 x2 x3 p54.1 p54.2 _ h)) (ao_leS (me_X12_free n r0 x1 p49.2 ρ hp54) ((mX12_done n).2.2.2.2.1 r0 x1 x2 x3 p54.1 p54.2 _ h)) ?_
        exact ih.2.2.2.2.1 r0 x1 x2 x3 p54.1 p54.2 _ h
    · intro r0 x1 x2 x3 M ρ y h
      replace h := ao_ifF h (by decide)
      replace h := ao_ifF h (by decide)
      replace h := ao_ifF h (by decide)
      replace h := ao_ifF h (by decide)
      replace h := ao_ifT h rfl
      refine ao_goto 215 dX12_done_139 (by decide) ?_
      exact ih.2.2.2.2.2.2.2.1 r0 x1 x2 x3 M ρ _ h
    · intro r0 x1 x2 x3 M ρ y h
      replace h := ao_ifF h (by decide)
      replace h := ao_ifF h (by decide)
      replace h := ao_ifF h (by decide)
      replace h := ao_ifF h (by decide)
      replace h := ao_ifF h (by decide)
      replace h := ao_ifT h rfl
      refine ao_iload_n 3 dX12_done_162 rfl rfl ?_
      refine ao_bipush (v := 26) dX12_done_163 (by decide) ?_
      refine ao_icmp_ge 215 dX12_done_165 (by decide) (fun c55 => ?_) (fun c55 => ?_)
      · replace h := ao_ifT h c55
        exact ih.2.2.2.2.2.2.2.1 r0 x1 x2 x3 M ρ _ h
      · replace h := ao_ifF h c55
        refine ao_aload_n 0 dX12_done_168 rfl rfl ?_
        obtain ⟨hk56, h⟩ := ao_some h
        obtain ⟨j57, hj57, h⟩ := ao_bind h
        refine an_getR r0 12 56 (q := (RX12, TX12, 83)) dX12_done_169 rfl hk56 (Nat.le_of_ble_eq_true rfl) rfl lf_X12_269 hj57 ?_
        refine ao_aload_n 0 dX12_done_172 rfl rfl ?_
        refine ao_iload_n 1 dX12_done_173 rfl rfl ?_
        refine ao_iconst (v := 0) dX12_done_174 (by decide) ?_
        refine ao_iload_n 3 dX12_done_175 rfl rfl ?_
        obtain ⟨p58, hp58, h⟩ := ao_bind h
        refine an_callVi r0 12 (q := (RX12, TX12, 83)) [.int x1, .int (0 : Int32), .int x3] (aX12_cell (d - 1) (by omega) r0 x1 (0 : Int32) x3 M ρ hp58) dX12_done_176 lc_X12_357 li_X12_cell ls_X12_cell rfl hk56 rfl rfl (Nat.le_of_ble_eq_true rfl) (ao_hR (by omega) (by decide)) ?_
        obtain ⟨hk59, h⟩ := ao_some h
        obtain ⟨hb60, h⟩ := ao_some h
        refine an_zaload j57 dX12_done_179 hk59 hb60 ?_
        refine ao_if_ne 186 dX12_done_180 (by decide) (fun c61 => ?_) (fun c61 => ?_)
        · replace h := ao_ifF h c61
          refine ao_aload_n 0 dX12_done_186 rfl rfl ?_
          obtain ⟨j62, hj62, h⟩ := ao_bind h
          refine an_getR r0 12 17 (q := (RX12, TX12, 83)) dX12_done_187 rfl hk56 (Nat.le_of_ble_eq_true rfl) rfl lf_X12_151 hj62 ?_
          refine ao_iload_n 3 dX12_done_190 rfl rfl ?_
          refine ao_aload_n 0 dX12_done_191 rfl rfl ?_
          obtain ⟨j63, hj63, h⟩ := ao_bind h
          refine an_getR r0 12 60 (q := (RX12, TX12, 83)) dX12_done_192 rfl hk56 (Nat.le_of_ble_eq_true rfl) rfl lf_X12_281 hj63 ?_
          refine ao_aload_n 0 dX12_done_195 rfl rfl ?_
          refine ao_iload_n 1 dX12_done_196 rfl rfl ?_
          refine ao_iconst (v := 0) dX12_done_197 (by decide) ?_
          refine ao_iload_n 3 dX12_done_198 rfl rfl ?_
          obtain ⟨p64, hp64, h⟩ := ao_bind h
          refine an_callVi r0 12 (q := (RX12, TX12, 83)) [.int x1, .int (0 : Int32), .int x3] (aX12_cell (d - 1) (by omega) r0 x1 (0 : Int32) x3 p58.2 ρ hp64) dX12_done_199 lc_X12_357 li_X12_cell ls_X12_cell rfl hk56 rfl rfl (Nat.le_of_ble_eq_true rfl) (ao_hR (by omega) (by decide)) ?_
          obtain ⟨hk65, h⟩ := ao_some h
          obtain ⟨hb66, h⟩ := ao_some h
          refine an_iaload j63 dX12_done_202 hk65 hb66 ?_
          obtain ⟨hk67, h⟩ := ao_some h
          obtain ⟨hb68, h⟩ := ao_some h
          refine an_iastore j62 dX12_done_203 hk67 hb68 (fun M69 hM69 => ?_)
          replace h := ao_letD h hM69
          refine ao_aload_n 0 dX12_done_204 rfl rfl ?_
          refine ao_iload_n 3 dX12_done_205 rfl rfl ?_
          obtain ⟨p70, hp70, h⟩ := ao_bind h
          refine ba_callVv r0 12 (q := (RX12, TX12, 83)) [.int x3] (aX12_remember (d - 1) (by omega) n r0 x3 M69 ρ hp70) dX12_done_206 lc_X12_160 li_X12_remember ls_X12_remember rfl hk56 rfl rfl (Nat.le_of_ble_eq_true rfl) (ao_hR (by omega) (by decide)) (ao_leC (me_X12_remember n r0 x3 M69 ρ hp70) ((mX12_done n).2.2.2.2.2.2.1 r0 x1 x2 x3 p70.1 p70.2 _ h)) (ao_leS (me_X12_remember n r0 x3 M69 ρ hp70) ((mX12_done n).2.2.2.2.2.2.1 r0 x1 x2 x3 p70.1 p70.2 _ h)) ?_
          exact ih.2.2.2.2.2.2.1 r0 x1 x2 x3 p70.1 p70.2 _ h
        · replace h := ao_ifT h c61
          refine ao_goto 209 dX12_done_183 (by decide) ?_
          exact ih.2.2.2.2.2.2.1 r0 x1 x2 x3 p58.2 ρ _ h
    · intro r0 x1 x2 x3 M ρ y h
      replace h := ao_ifF h (by decide)
      replace h := ao_ifF h (by decide)
      replace h := ao_ifF h (by decide)
      replace h := ao_ifF h (by decide)
      replace h := ao_ifF h (by decide)
      replace h := ao_ifF h (by decide)
      replace h := ao_ifT h rfl
      obtain ⟨v71, hv71⟩ : ∃ z : Int32, z = x3 + (1 : Int32) := ⟨_, rfl⟩
      replace h := ao_letD h hv71
      refine ao_iinc 3 (v := v71) (lo' := [some (.ref (Γ.2.2.2 + r0)), some (.int x1), some (.int x2), some (.int v71), none]) dX12_done_209 rfl (by rw [hv71]; rfl) (Nat.le_of_ble_eq_true rfl) rfl ?_
      refine ao_goto 162 dX12_done_212 (by decide) ?_
      exact ih.2.2.2.2.2.1 r0 x1 x2 v71 M ρ _ h
    · intro r0 x1 x2 x3 M ρ y h
      replace h := ao_ifF h (by decide)
      replace h := ao_ifF h (by decide)
      replace h := ao_ifF h (by decide)
      replace h := ao_ifF h (by decide)
      replace h := ao_ifF h (by decide)
      replace h := ao_ifF h (by decide)
      replace h := ao_ifF h (by decide)
      replace h := ao_ifT h rfl
      refine ao_iconst (v := 0) dX12_done_215 (by decide) ?_
      refine ao_istore_n 3 (lo' := [some (.ref (Γ.2.2.2 + r0)), some (.int x1), some (.int x2), some (.int (0 : Int32)), none]) dX12_done_216 rfl (Nat.le_of_ble_eq_true rfl) rfl ?_
      exact ih.2.2.2.2.2.2.2.2 r0 x1 x2 (0 : Int32) M ρ _ h
    · intro r0 x1 x2 x3 M ρ y h
      replace h := ao_ifF h (by decide)
      replace h := ao_ifF h (by decide)
      replace h := ao_ifF h (by decide)
      replace h := ao_ifF h (by decide)
      replace h := ao_ifF h (by decide)
      replace h := ao_ifF h (by decide)
      replace h := ao_ifF h (by decide)
      replace h := ao_ifF h (by decide)
      replace h := ao_ifT h rfl
      refine ao_iload_n 3 dX12_done_217 rfl rfl ?_
      refine ao_aload_n 0 dX12_done_218 rfl rfl ?_
      obtain ⟨hk72, h⟩ := ao_some h
      obtain ⟨j73, hj73, h⟩ := ao_bind h
      refine an_getR r0 12 62 (q := (RX12, TX12, 83)) dX12_done_219 rfl hk72 (Nat.le_of_ble_eq_true rfl) rfl lf_X12_287 hj73 ?_
      refine ao_aload_n 0 dX12_done_222 rfl rfl ?_
      refine ao_iload_n 1 dX12_done_223 rfl rfl ?_
      refine ao_iconst (v := 0) dX12_done_224 (by decide) ?_
      obtain ⟨p74, hp74, h⟩ := ao_bind h
      refine an_callVi r0 12 (q := (RX12, TX12, 83)) [.int x1, .int (0 : Int32)] (aX12_level (d - 1) (by omega) r0 x1 (0 : Int32) M ρ hp74) dX12_done_225 lc_X12_360 li_X12_level ls_X12_level rfl hk72 rfl rfl (Nat.le_of_ble_eq_true rfl) (ao_hR (by omega) (by decide)) ?_
      obtain ⟨hk75, h⟩ := ao_some h
      obtain ⟨hb76, h⟩ := ao_some h
      refine an_iaload j73 dX12_done_228 hk75 hb76 ?_
      refine ao_icmp_ge 260 dX12_done_229 (by decide) (fun c77 => ?_) (fun c77 => ?_)
      · replace h := ao_ifT h c77
        refine ao_aload_n 0 dX12_done_260 rfl rfl ?_
        obtain ⟨j78, hj78, h⟩ := ao_bind h
        refine an_getR r0 12 34 (q := (RX12, TX12, 83)) dX12_done_261 rfl hk72 (Nat.le_of_ble_eq_true rfl) rfl lf_X12_202 hj78 ?_
        refine ao_iload_n 1 dX12_done_264 rfl rfl ?_
        refine ao_iconst (v := 0) dX12_done_265 (by decide) ?_
        obtain ⟨hk79, h⟩ := ao_some h
        obtain ⟨hb80, h⟩ := ao_some h
        refine an_iastore j78 dX12_done_266 hk79 hb80 (fun M81 hM81 => ?_)
        replace h := ao_letD h hM81
        refine ao_aload_n 0 dX12_done_267 rfl rfl ?_
        refine ao_iload_n 1 dX12_done_268 rfl rfl ?_
        refine ao_iconst (v := 0) dX12_done_269 (by decide) ?_
        obtain ⟨p82, hp82, h⟩ := ao_bind h
        refine an_callVv r0 12 (q := (RX12, TX12, 83)) [.int x1, .int (0 : Int32)] (aX12_clearLevel (d - 1) (by omega) _ r0 x1 (0 : Int32) M81 ρ hp82) dX12_done_270 lc_X12_353 li_X12_clearLevel ls_X12_clearLevel rfl hk72 rfl rfl (Nat.le_of_ble_eq_true rfl) (ao_hR (by omega) (by decide)) ?_
        refine ao_aload_n 0 dX12_done_273 rfl rfl ?_
        obtain ⟨j83, hj83, h⟩ := ao_bind h
        refine an_getR r0 12 40 (q := (RX12, TX12, 83)) dX12_done_274 rfl hk72 (Nat.le_of_ble_eq_true rfl) rfl lf_X12_220 hj83 ?_
        refine ao_iload_n 1 dX12_done_277 rfl rfl ?_
        refine ao_dup2 dX12_done_278 rfl rfl ?_
        obtain ⟨hk84, h⟩ := ao_some h
        obtain ⟨hb85, h⟩ := ao_some h
        refine an_iaload j83 dX12_done_279 hk84 hb85 ?_
        refine ao_iconst (v := 1) dX12_done_280 (by decide) ?_
        refine ao_iadd dX12_done_281 ?_
        refine an_iastore j83 dX12_done_282 hk84 hb85 (fun M86 hM86 => ?_)
        replace h := ao_letD h hM86
        refine ao_aload_n 0 dX12_done_283 rfl rfl ?_
        obtain ⟨j87, hj87, h⟩ := ao_bind h
        refine an_getR r0 12 29 (q := (RX12, TX12, 83)) dX12_done_284 rfl hk72 (Nat.le_of_ble_eq_true rfl) rfl lf_X12_187 hj87 ?_
        refine ao_iload_n 1 dX12_done_287 rfl rfl ?_
        refine ao_iconst (v := 1) dX12_done_288 (by decide) ?_
        obtain ⟨hk88, h⟩ := ao_some h
        obtain ⟨hb89, h⟩ := ao_some h
        refine an_iastore j87 dX12_done_289 hk88 hb89 (fun M90 hM90 => ?_)
        replace h := ao_letD h hM90
        cases h
        exact ao_return dX12_done_290 rfl ⟨rfl, rfl⟩
      · replace h := ao_ifF h c77
        refine ao_aload_n 0 dX12_done_232 rfl rfl ?_
        refine ao_iload_n 1 dX12_done_233 rfl rfl ?_
        refine ao_aload_n 0 dX12_done_234 rfl rfl ?_
        obtain ⟨j91, hj91, h⟩ := ao_bind h
        refine an_getR r0 12 61 (q := (RX12, TX12, 83)) dX12_done_235 rfl hk72 (Nat.le_of_ble_eq_true rfl) rfl lf_X12_284 hj91 ?_
        refine ao_aload_n 0 dX12_done_238 rfl rfl ?_
        refine ao_iload_n 1 dX12_done_239 rfl rfl ?_
        refine ao_iconst (v := 0) dX12_done_240 (by decide) ?_
        obtain ⟨p92, hp92, h⟩ := ao_bind h
        refine an_callVi r0 12 (q := (RX12, TX12, 83)) [.int x1, .int (0 : Int32)] (aX12_level (d - 1) (by omega) r0 x1 (0 : Int32) p74.2 ρ hp92) dX12_done_241 lc_X12_360 li_X12_level ls_X12_level rfl hk72 rfl rfl (Nat.le_of_ble_eq_true rfl) (ao_hR (by omega) (by decide)) ?_
        refine ao_sipush (v := 200) dX12_done_244 (by decide) ?_
        refine ao_imul dX12_done_247 ?_
        refine ao_iload_n 3 dX12_done_248 rfl rfl ?_
        refine ao_iadd dX12_done_249 ?_
        obtain ⟨hk93, h⟩ := ao_some h
        obtain ⟨hb94, h⟩ := ao_some h
        refine an_iaload j91 dX12_done_250 hk93 hb94 ?_
        obtain ⟨p95, hp95, h⟩ := ao_bind h
        refine an_callVv r0 12 (q := (RX12, TX12, 83)) [.int x1, .int (p92.2 j91 ((p92.1 * (200 : Int32)) + x3).toNatClampNeg)] (aX12_say (d - 1) (by omega) r0 x1 (p92.2 j91 ((p92.1 * (200 : Int32)) + x3).toNatClampNeg) p92.2 ρ hp95) dX12_done_251 lc_X12_428 li_X12_say ls_X12_say rfl hk72 rfl rfl (Nat.le_of_ble_eq_true rfl) (ao_hR (by omega) (by decide)) ?_
        obtain ⟨v96, hv96⟩ : ∃ z : Int32, z = x3 + (1 : Int32) := ⟨_, rfl⟩
        replace h := ao_letD h hv96
        refine ao_iinc 3 (v := v96) (lo' := [some (.ref (Γ.2.2.2 + r0)), some (.int x1), some (.int x2), some (.int v96), none]) dX12_done_254 rfl (by rw [hv96]; rfl) (Nat.le_of_ble_eq_true rfl) rfl ?_
        refine ao_goto 217 dX12_done_257 (by decide) ?_
        exact ih.2.2.2.2.2.2.2.2 r0 x1 x2 v96 p95 ρ _ h
theorem me_X12_done (n : Nat) (r0 : Nat) (x1 : Int32) (M : ao_M) (ρ : ao_H) {y : ao_S} (h : gX12_done n r0 x1 M ρ = some y) : ao_le ρ y.2 := (mX12_done n).1 r0 x1 M ρ y h
set_option maxRecDepth 100000 in
set_option maxHeartbeats 4000000 in
theorem aX12_done {Γ : ao_C} (d : Nat) (hd : 3 ≤ d) (n : Nat) (r0 : Nat) (x1 : Int32) (M : ao_M) (ρ : ao_H) {y : ao_S} (h : gX12_done n r0 x1 M ρ = some y) : ao_A Γ uX12_done d (ao_dc ρ y.2) (ao_ds ρ y.2) [.ref (Γ.2.2.2 + r0), .int x1] (M, ρ) (ao_QV y) := by
  refine ao_of (by decide) (ao_cat1 (Nat.le_of_ble_eq_true rfl)) (Nat.le_of_ble_eq_true rfl) ?_
  show ao_W Γ uX12_done (ao_rm d (ao_dc ρ y.2) (ao_ds ρ y.2)) (ao_Q Γ (ao_QV y) (ao_dc ρ y.2) (ao_ds ρ y.2)) (ao_dc ρ y.2) (ao_ds ρ y.2) 0 [some (.ref (Γ.2.2.2 + r0)), some (.int x1), none, none, none] [] (M, ρ)
  exact (wX12_done d hd _ _ n).1 r0 x1 M ρ y h

abbrev uX12_endBlock : ao_Mi := (yX12_endBlock, cX12_endBlock, 3, (some .int), [])
def fX12_endBlock : Nat → Nat → Nat → Int32 → Int32 → Int32 →  ao_M → ao_H → Option (Int32 × ao_S)
  | 0, _, _, _, _, _, _, _ => none
  | n + 1, pc, r0, x1, x2, s0, M, ρ =>
    if pc = 0 then
      if ρ.2.1 r0 = 22 then
      (ρ.1 r0 43).bind fun j2 =>
      (ρ.1 r0 35).bind fun j3 =>
      if ρ.2.1 j3 = 0 then
      if ¬ (x1 < 0 ∨ ρ.2.2.1 j3 ≤ x1.toNatClampNeg) then
      (gX12_level r0 x1 ((M j3 x1.toNatClampNeg) - (1 : Int32)) M ρ).bind fun p6 =>
      if ρ.2.1 j2 = 0 then
      if ¬ (p6.1 < 0 ∨ ρ.2.2.1 j2 ≤ p6.1.toNatClampNeg) then
      ao_let (p6.2 j2 p6.1.toNatClampNeg) fun v9 =>
      if v9 = 0 then
        (gX12_mayEnd n r0 x1 p6.2 ρ).bind fun p18 =>
        fX12_endBlock n 28 r0 x1 v9 p18.1 p18.2.1 p18.2.2
      else
        ao_let (ao_u p6.2 j3 x1.toNatClampNeg ((p6.2 j3 x1.toNatClampNeg) - (1 : Int32))) fun M11 =>
        (ρ.1 r0 30).bind fun j12 =>
        if ρ.2.1 j12 = 0 then
        if ¬ (x1 < 0 ∨ ρ.2.2.1 j12 ≤ x1.toNatClampNeg) then
        ao_let (ao_u M11 j12 x1.toNatClampNeg ((M11 j12 x1.toNatClampNeg) + (1 : Int32))) fun M15 =>
        if v9 ≤ 0 then
          some ((-1 : Int32), M15, ρ)
        else
          (gX12_endPart n r0 x1 M15 ρ).bind fun p17 =>
          some ((-1 : Int32), p17, ρ)
        else none
        else none
      else none
      else none
      else none
      else none
      else none
    else if pc = 28 then
      if s0 = 0 then
        some ((1 : Int32), M, ρ)
      else
        if ρ.2.1 r0 = 22 then
        (ρ.1 r0 35).bind fun j21 =>
        if ρ.2.1 j21 = 0 then
        if ¬ (x1 < 0 ∨ ρ.2.2.1 j21 ≤ x1.toNatClampNeg) then
        ao_let (ao_u M j21 x1.toNatClampNeg ((M j21 x1.toNatClampNeg) - (1 : Int32))) fun M24 =>
        (ρ.1 r0 30).bind fun j25 =>
        if ρ.2.1 j25 = 0 then
        if ¬ (x1 < 0 ∨ ρ.2.2.1 j25 ≤ x1.toNatClampNeg) then
        ao_let (ao_u M24 j25 x1.toNatClampNeg ((M24 j25 x1.toNatClampNeg) + (1 : Int32))) fun M28 =>
        (gX12_done n r0 x1 M28 ρ).bind fun p29 =>
        fX12_endBlock n 58 r0 x1 x2 0 p29.1 p29.2
        else none
        else none
        else none
        else none
        else none
    else if pc = 58 then
      some ((0 : Int32), M, ρ)
    else none
def gX12_endBlock (n : Nat) (r0 : Nat) (x1 : Int32) (M : ao_M) (ρ : ao_H) : Option (Int32 × ao_S) := fX12_endBlock n 0 r0 x1 0 0 M ρ
set_option maxRecDepth 100000 in
set_option maxHeartbeats 4000000 in
theorem mX12_endBlock : ∀ n : Nat, (∀ (r0 : Nat) (x1 : Int32) (M : ao_M) (ρ : ao_H) (y : Int32 × ao_S), fX12_endBlock n 0 r0 x1 0 0 M ρ = some y → ao_le ρ y.2.2) ∧ (∀ (r0 : Nat) (x1 : Int32) (x2 : Int32) (s0 : Int32) (M : ao_M) (ρ : ao_H) (y : Int32 × ao_S), fX12_endBlock n 28 r0 x1 x2 s0 M ρ = some y → ao_le ρ y.2.2) ∧ (∀ (r0 : Nat) (x1 : Int32) (x2 : Int32) (M : ao_M) (ρ : ao_H) (y : Int32 × ao_S), fX12_endBlock n 58 r0 x1 x2 0 M ρ = some y → ao_le ρ y.2.2) := by
  intro n
  induction n with
  | zero => exact ⟨fun _ _ _ _ _ h => ao_no h, fun _ _ _ _ _ _ _ h => ao_no h, fun _ _ _ _ _ _ h => ao_no h⟩
  | succ n ih =>
    refine ⟨?_, ?_, ?_⟩
    · intro r0 x1 M ρ y h
      replace h := ao_ifT h rfl
      obtain ⟨-, h⟩ := ao_some h
      obtain ⟨j2, hj2, h⟩ := ao_bind h
      obtain ⟨j3, hj3, h⟩ := ao_bind h
      obtain ⟨-, h⟩ := ao_some h
      obtain ⟨-, h⟩ := ao_some h
      obtain ⟨p6, hp6, h⟩ := ao_bind h
      obtain ⟨-, h⟩ := ao_some h
      obtain ⟨-, h⟩ := ao_some h
      replace h := ao_letD h rfl
      generalize (p6.2 j2 p6.1.toNatClampNeg) = v9 at h
      rcases ao_ifC h with h | h
      · obtain ⟨p18, hp18, h⟩ := ao_bind h
        exact ao_le_tr (me_X12_mayEnd n r0 x1 p6.2 ρ hp18) (ih.2.1 r0 x1 v9 p18.1 p18.2.1 p18.2.2 _ h)
      · replace h := ao_letD h rfl
        generalize (ao_u p6.2 j3 x1.toNatClampNeg ((p6.2 j3 x1.toNatClampNeg) - (1 : Int32))) = M11 at h
        obtain ⟨j12, hj12, h⟩ := ao_bind h
        obtain ⟨-, h⟩ := ao_some h
        obtain ⟨-, h⟩ := ao_some h
        replace h := ao_letD h rfl
        generalize (ao_u M11 j12 x1.toNatClampNeg ((M11 j12 x1.toNatClampNeg) + (1 : Int32))) = M15 at h
        rcases ao_ifC h with h | h
        · cases h
          exact ao_le_rf _
        · obtain ⟨p17, hp17, h⟩ := ao_bind h
          cases h
          exact ao_le_rf _
    · intro r0 x1 x2 s0 M ρ y h
      replace h := ao_ifF h (by decide)
      replace h := ao_ifT h rfl
      rcases ao_ifC h with h | h
      · cases h
        exact ao_le_rf _
      · obtain ⟨-, h⟩ := ao_some h
        obtain ⟨j21, hj21, h⟩ := ao_bind h
        obtain ⟨-, h⟩ := ao_some h
        obtain ⟨-, h⟩ := ao_some h
        replace h := ao_letD h rfl
        generalize (ao_u M j21 x1.toNatClampNeg ((M j21 x1.toNatClampNeg) - (1 : Int32))) = M24 at h
        obtain ⟨j25, hj25, h⟩ := ao_bind h
        obtain ⟨-, h⟩ := ao_some h
        obtain ⟨-, h⟩ := ao_some h
        replace h := ao_letD h rfl
        generalize (ao_u M24 j25 x1.toNatClampNeg ((M24 j25 x1.toNatClampNeg) + (1 : Int32))) = M28 at h
        obtain ⟨p29, hp29, h⟩ := ao_bind h
        exact ao_le_tr (me_X12_done n r0 x1 M28 ρ hp29) (ih.2.2 r0 x1 x2 p29.1 p29.2 _ h)
    · intro r0 x1 x2 M ρ y h
      replace h := ao_ifF h (by decide)
      replace h := ao_ifF h (by decide)
      replace h := ao_ifT h rfl
      cases h
      exact ao_le_rf _
set_option maxRecDepth 100000 in
set_option maxHeartbeats 4000000 in
theorem wX12_endBlock {Γ : ao_C} (d : Nat) (hd : 7 ≤ d) (MC MS : Nat) : ∀ n : Nat, (∀ (r0 : Nat) (x1 : Int32) (M : ao_M) (ρ : ao_H) (y : Int32 × ao_S), fX12_endBlock n 0 r0 x1 0 0 M ρ = some y → ao_W Γ uX12_endBlock (ao_rm d MC MS) (ao_Q Γ (ao_QI y) MC MS) (ao_dc ρ y.2.2) (ao_ds ρ y.2.2) 0 [some (.ref (Γ.2.2.2 + r0)), some (.int x1), none] [] (M, ρ)) ∧ (∀ (r0 : Nat) (x1 : Int32) (x2 : Int32) (s0 : Int32) (M : ao_M) (ρ : ao_H) (y : Int32 × ao_S), fX12_endBlock n 28 r0 x1 x2 s0 M ρ = some y → ao_W Γ uX12_endBlock (ao_rm d MC MS) (ao_Q Γ (ao_QI y) MC MS) (ao_dc ρ y.2.2) (ao_ds ρ y.2.2) 28 [some (.ref (Γ.2.2.2 + r0)), some (.int x1), some (.int x2)] [.int s0] (M, ρ)) ∧ (∀ (r0 : Nat) (x1 : Int32) (x2 : Int32) (M : ao_M) (ρ : ao_H) (y : Int32 × ao_S), fX12_endBlock n 58 r0 x1 x2 0 M ρ = some y → ao_W Γ uX12_endBlock (ao_rm d MC MS) (ao_Q Γ (ao_QI y) MC MS) (ao_dc ρ y.2.2) (ao_ds ρ y.2.2) 58 [some (.ref (Γ.2.2.2 + r0)), some (.int x1), some (.int x2)] [] (M, ρ)) := by
  intro n
  induction n with
  | zero => exact ⟨fun _ _ _ _ _ h => ao_no h, fun _ _ _ _ _ _ _ h => ao_no h, fun _ _ _ _ _ _ h => ao_no h⟩
  | succ n ih =>
    refine ⟨?_, ?_, ?_⟩
    · intro r0 x1 M ρ y h
      replace h := ao_ifT h rfl
      refine ao_aload_n 0 dX12_endBlock_0 rfl rfl ?_
      obtain ⟨hk1, h⟩ := ao_some h
      obtain ⟨j2, hj2, h⟩ := ao_bind h
      refine an_getR r0 12 43 (q := (RX12, TX12, 83)) dX12_endBlock_1 rfl hk1 (Nat.le_of_ble_eq_true rfl) rfl lf_X12_229 hj2 ?_
      refine ao_aload_n 0 dX12_endBlock_4 rfl rfl ?_
      refine ao_iload_n 1 dX12_endBlock_5 rfl rfl ?_
      refine ao_aload_n 0 dX12_endBlock_6 rfl rfl ?_
      obtain ⟨j3, hj3, h⟩ := ao_bind h
      refine an_getR r0 12 35 (q := (RX12, TX12, 83)) dX12_endBlock_7 rfl hk1 (Nat.le_of_ble_eq_true rfl) rfl lf_X12_205 hj3 ?_
      refine ao_iload_n 1 dX12_endBlock_10 rfl rfl ?_
      obtain ⟨hk4, h⟩ := ao_some h
      obtain ⟨hb5, h⟩ := ao_some h
      refine an_iaload j3 dX12_endBlock_11 hk4 hb5 ?_
      refine ao_iconst (v := 1) dX12_endBlock_12 (by decide) ?_
      refine ao_isub dX12_endBlock_13 ?_
      obtain ⟨p6, hp6, h⟩ := ao_bind h
      refine an_callVi r0 12 (q := (RX12, TX12, 83)) [.int x1, .int ((M j3 x1.toNatClampNeg) - (1 : Int32))] (aX12_level (d - 1) (by omega) r0 x1 ((M j3 x1.toNatClampNeg) - (1 : Int32)) M ρ hp6) dX12_endBlock_14 lc_X12_360 li_X12_level ls_X12_level rfl hk1 rfl rfl (Nat.le_of_ble_eq_true rfl) (ao_hR (by omega) (by decide)) ?_
      obtain ⟨hk7, h⟩ := ao_some h
      obtain ⟨hb8, h⟩ := ao_some h
      refine an_iaload j2 dX12_endBlock_17 hk7 hb8 ?_
      refine an_topi (fun v9 hv9 => ?_)
      replace h := ao_letD h hv9
      refine ao_istore_n 2 (lo' := [some (.ref (Γ.2.2.2 + r0)), some (.int x1), some (.int v9)]) dX12_endBlock_18 rfl (Nat.le_of_ble_eq_true rfl) rfl ?_
      refine ao_iload_n 2 dX12_endBlock_19 rfl rfl ?_
      refine ao_if_ne 60 dX12_endBlock_20 (by decide) (fun c10 => ?_) (fun c10 => ?_)
      · replace h := ao_ifF h c10
        refine ao_aload_n 0 dX12_endBlock_60 rfl rfl ?_
        refine an_getR r0 12 35 (q := (RX12, TX12, 83)) dX12_endBlock_61 rfl hk1 (Nat.le_of_ble_eq_true rfl) rfl lf_X12_205 hj3 ?_
        refine ao_iload_n 1 dX12_endBlock_64 rfl rfl ?_
        refine ao_dup2 dX12_endBlock_65 rfl rfl ?_
        refine an_iaload j3 dX12_endBlock_66 hk4 hb5 ?_
        refine ao_iconst (v := 1) dX12_endBlock_67 (by decide) ?_
        refine ao_isub dX12_endBlock_68 ?_
        refine an_iastore j3 dX12_endBlock_69 hk4 hb5 (fun M11 hM11 => ?_)
        replace h := ao_letD h hM11
        refine ao_aload_n 0 dX12_endBlock_70 rfl rfl ?_
        obtain ⟨j12, hj12, h⟩ := ao_bind h
        refine an_getR r0 12 30 (q := (RX12, TX12, 83)) dX12_endBlock_71 rfl hk1 (Nat.le_of_ble_eq_true rfl) rfl lf_X12_190 hj12 ?_
        refine ao_iload_n 1 dX12_endBlock_74 rfl rfl ?_
        refine ao_dup2 dX12_endBlock_75 rfl rfl ?_
        obtain ⟨hk13, h⟩ := ao_some h
        obtain ⟨hb14, h⟩ := ao_some h
        refine an_iaload j12 dX12_endBlock_76 hk13 hb14 ?_
        refine ao_iconst (v := 1) dX12_endBlock_77 (by decide) ?_
        refine ao_iadd dX12_endBlock_78 ?_
        refine an_iastore j12 dX12_endBlock_79 hk13 hb14 (fun M15 hM15 => ?_)
        replace h := ao_letD h hM15
        refine ao_iload_n 2 dX12_endBlock_80 rfl rfl ?_
        refine ao_if_le 89 dX12_endBlock_81 (by decide) (fun c16 => ?_) (fun c16 => ?_)
        · replace h := ao_ifT h c16
          refine ao_iconst (v := (-1)) dX12_endBlock_89 (by decide) ?_
          cases h
          exact ao_ireturn dX12_endBlock_90 rfl rfl ⟨rfl, rfl⟩
        · replace h := ao_ifF h c16
          refine ao_aload_n 0 dX12_endBlock_84 rfl rfl ?_
          refine ao_iload_n 1 dX12_endBlock_85 rfl rfl ?_
          obtain ⟨p17, hp17, h⟩ := ao_bind h
          refine an_callVv r0 12 (q := (RX12, TX12, 83)) [.int x1] (aX12_endPart (d - 1) (by omega) _ r0 x1 M15 ρ hp17) dX12_endBlock_86 lc_X12_443 li_X12_endPart ls_X12_endPart rfl hk1 rfl rfl (Nat.le_of_ble_eq_true rfl) (ao_hR (by omega) (by decide)) ?_
          refine ao_iconst (v := (-1)) dX12_endBlock_89 (by decide) ?_
          cases h
          exact ao_ireturn dX12_endBlock_90 rfl rfl ⟨rfl, rfl⟩
      · replace h := ao_ifT h c10
        refine ao_aload_n 0 dX12_endBlock_23 rfl rfl ?_
        refine ao_iload_n 1 dX12_endBlock_24 rfl rfl ?_
        obtain ⟨p18, hp18, h⟩ := ao_bind h
        refine ba_callVi r0 12 (q := (RX12, TX12, 83)) [.int x1] (aX12_mayEnd (d - 1) (by omega) n r0 x1 p6.2 ρ hp18) dX12_endBlock_25 lc_X12_437 li_X12_mayEnd ls_X12_mayEnd rfl hk1 rfl rfl (Nat.le_of_ble_eq_true rfl) (ao_hR (by omega) (by decide)) (ao_leC (me_X12_mayEnd n r0 x1 p6.2 ρ hp18) ((mX12_endBlock n).2.1 r0 x1 v9 p18.1 p18.2.1 p18.2.2 _ h)) (ao_leS (me_X12_mayEnd n r0 x1 p6.2 ρ hp18) ((mX12_endBlock n).2.1 r0 x1 v9 p18.1 p18.2.1 p18.2.2 _ h)) ?_
        exact ih.2.1 r0 x1 v9 p18.1 p18.2.1 p18.2.2 _ h
    · intro r0 x1 x2 s0 M ρ y h
      replace h := ao_ifF h (by decide)
      replace h := ao_ifT h rfl
      refine ao_if_ne 33 dX12_endBlock_28 (by decide) (fun c19 => ?_) (fun c19 => ?_)
      · replace h := ao_ifF h c19
        refine ao_aload_n 0 dX12_endBlock_33 rfl rfl ?_
        obtain ⟨hk20, h⟩ := ao_some h
        obtain ⟨j21, hj21, h⟩ := ao_bind h
        refine an_getR r0 12 35 (q := (RX12, TX12, 83)) dX12_endBlock_34 rfl hk20 (Nat.le_of_ble_eq_true rfl) rfl lf_X12_205 hj21 ?_
        refine ao_iload_n 1 dX12_endBlock_37 rfl rfl ?_
        refine ao_dup2 dX12_endBlock_38 rfl rfl ?_
        obtain ⟨hk22, h⟩ := ao_some h
        obtain ⟨hb23, h⟩ := ao_some h
        refine an_iaload j21 dX12_endBlock_39 hk22 hb23 ?_
        refine ao_iconst (v := 1) dX12_endBlock_40 (by decide) ?_
        refine ao_isub dX12_endBlock_41 ?_
        refine an_iastore j21 dX12_endBlock_42 hk22 hb23 (fun M24 hM24 => ?_)
        replace h := ao_letD h hM24
        refine ao_aload_n 0 dX12_endBlock_43 rfl rfl ?_
        obtain ⟨j25, hj25, h⟩ := ao_bind h
        refine an_getR r0 12 30 (q := (RX12, TX12, 83)) dX12_endBlock_44 rfl hk20 (Nat.le_of_ble_eq_true rfl) rfl lf_X12_190 hj25 ?_
        refine ao_iload_n 1 dX12_endBlock_47 rfl rfl ?_
        refine ao_dup2 dX12_endBlock_48 rfl rfl ?_
        obtain ⟨hk26, h⟩ := ao_some h
        obtain ⟨hb27, h⟩ := ao_some h
        refine an_iaload j25 dX12_endBlock_49 hk26 hb27 ?_
        refine ao_iconst (v := 1) dX12_endBlock_50 (by decide) ?_
        refine ao_iadd dX12_endBlock_51 ?_
        refine an_iastore j25 dX12_endBlock_52 hk26 hb27 (fun M28 hM28 => ?_)
        replace h := ao_letD h hM28
        refine ao_aload_n 0 dX12_endBlock_53 rfl rfl ?_
        refine ao_iload_n 1 dX12_endBlock_54 rfl rfl ?_
        obtain ⟨p29, hp29, h⟩ := ao_bind h
        refine ba_callVv r0 12 (q := (RX12, TX12, 83)) [.int x1] (aX12_done (d - 1) (by omega) n r0 x1 M28 ρ hp29) dX12_endBlock_55 lc_X12_440 li_X12_done ls_X12_done rfl hk20 rfl rfl (Nat.le_of_ble_eq_true rfl) (ao_hR (by omega) (by decide)) (ao_leC (me_X12_done n r0 x1 M28 ρ hp29) ((mX12_endBlock n).2.2 r0 x1 x2 p29.1 p29.2 _ h)) (ao_leS (me_X12_done n r0 x1 M28 ρ hp29) ((mX12_endBlock n).2.2 r0 x1 x2 p29.1 p29.2 _ h)) ?_
        exact ih.2.2 r0 x1 x2 p29.1 p29.2 _ h
      · replace h := ao_ifT h c19
        refine ao_iconst (v := 1) dX12_endBlock_31 (by decide) ?_
        cases h
        exact ao_ireturn dX12_endBlock_32 rfl rfl ⟨rfl, rfl⟩
    · intro r0 x1 x2 M ρ y h
      replace h := ao_ifF h (by decide)
      replace h := ao_ifF h (by decide)
      replace h := ao_ifT h rfl
      refine ao_iconst (v := 0) dX12_endBlock_58 (by decide) ?_
      cases h
      exact ao_ireturn dX12_endBlock_59 rfl rfl ⟨rfl, rfl⟩
theorem me_X12_endBlock (n : Nat) (r0 : Nat) (x1 : Int32) (M : ao_M) (ρ : ao_H) {y : Int32 × ao_S} (h : gX12_endBlock n r0 x1 M ρ = some y) : ao_le ρ y.2.2 := (mX12_endBlock n).1 r0 x1 M ρ y h
set_option maxRecDepth 100000 in
set_option maxHeartbeats 4000000 in
theorem aX12_endBlock {Γ : ao_C} (d : Nat) (hd : 7 ≤ d) (n : Nat) (r0 : Nat) (x1 : Int32) (M : ao_M) (ρ : ao_H) {y : Int32 × ao_S} (h : gX12_endBlock n r0 x1 M ρ = some y) : ao_A Γ uX12_endBlock d (ao_dc ρ y.2.2) (ao_ds ρ y.2.2) [.ref (Γ.2.2.2 + r0), .int x1] (M, ρ) (ao_QI y) := by
  refine ao_of (by decide) (ao_cat1 (Nat.le_of_ble_eq_true rfl)) (Nat.le_of_ble_eq_true rfl) ?_
  show ao_W Γ uX12_endBlock (ao_rm d (ao_dc ρ y.2.2) (ao_ds ρ y.2.2)) (ao_Q Γ (ao_QI y) (ao_dc ρ y.2.2) (ao_ds ρ y.2.2)) (ao_dc ρ y.2.2) (ao_ds ρ y.2.2) 0 [some (.ref (Γ.2.2.2 + r0)), some (.int x1), none] [] (M, ρ)
  exact (wX12_endBlock d hd _ _ n).1 r0 x1 M ρ y h
