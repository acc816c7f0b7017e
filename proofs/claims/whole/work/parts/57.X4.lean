abbrev uX4_broken : ao_Mi := (yX4_broken, cX4_broken, 1, (some .boolean), [])
def gX4_broken (r0 : Nat) (M : ao_M) (ρ : ao_H) : Option (Int32 × ao_M) :=
  if ρ.2.1 r0 = 14 then
  (ρ.1 r0 0).bind fun j2 =>
  if ρ.2.1 j2 = 19 then
  ao_let (ao_u M r0 2 (M j2 9)) fun M4 =>
  some ((0 : Int32), M4)
  else none
  else none
set_option maxRecDepth 100000 in
set_option maxHeartbeats 4000000 in
theorem aX4_broken {Γ : ao_C} (d : Nat) (hd : 0 ≤ d) (r0 : Nat) (M : ao_M) (ρ : ao_H) {y : Int32 × ao_M} (h : gX4_broken r0 M ρ = some y) : ao_A Γ uX4_broken d 0 0 [.ref (Γ.2.2.2 + r0)] (M, ρ) (ao_PI ρ y) := by
  refine ao_of (by decide) (ao_cat1 (Nat.le_of_ble_eq_true rfl)) (Nat.le_of_ble_eq_true rfl) ?_
  show ao_W Γ uX4_broken (ao_rm d 0 0) (ao_Q Γ (ao_PI ρ y) 0 0) 0 0 0 [some (.ref (Γ.2.2.2 + r0))] [] (M, ρ)
  unfold gX4_broken at h
  refine ao_aload_n 0 dX4_broken_0 rfl rfl ?_
  refine ao_aload_n 0 dX4_broken_1 rfl rfl ?_
  obtain ⟨hk1, h⟩ := ao_some h
  obtain ⟨j2, hj2, h⟩ := ao_bind h
  refine an_getR r0 4 0 (q := (RX4, TX4, 3)) dX4_broken_2 rfl hk1 (Nat.le_of_ble_eq_true rfl) rfl lf_X4_12 hj2 ?_
  obtain ⟨hk3, h⟩ := ao_some h
  refine an_getI j2 9 9 (q := (RX9, TX9, 11)) dX4_broken_5 rfl hk3 (Nat.le_of_ble_eq_true rfl) rfl lf_X4_49 ?_
  refine an_putI r0 4 2 (q := (RX4, TX4, 3)) dX4_broken_8 rfl hk1 (Nat.le_of_ble_eq_true rfl) lf_X4_27 rfl rfl rfl rfl (fun M4 hM4 => ?_)
  replace h := ao_letD h hM4
  refine ao_iconst (v := 0) dX4_broken_11 (by decide) ?_
  cases h
  exact ao_ireturn dX4_broken_12 rfl rfl ⟨rfl, rfl⟩

abbrev uX4_expect : ao_Mi := (yX4_expect, cX4_expect, 2, (some .boolean), [])
def gX4_expect (n : Nat) (r0 : Nat) (x1 : Int32) (M : ao_M) (ρ : ao_H) : Option (Int32 × ao_M) :=
  if ρ.2.1 r0 = 14 then
  (ρ.1 r0 0).bind fun j2 =>
  if ρ.2.1 j2 = 19 then
  if (M j2 8) = x1 then
    (gX9_advance n j2 M ρ).bind fun p5 =>
    some ((1 : Int32), p5)
  else
    (gX4_broken r0 M ρ).bind fun p6 =>
    if p6.1 = 0 ∨ p6.1 = 1 then
    some (p6.1, p6.2)
    else none
  else none
  else none
set_option maxRecDepth 100000 in
set_option maxHeartbeats 4000000 in
theorem aX4_expect {Γ : ao_C} (d : Nat) (hd : 1 ≤ d) (n : Nat) (r0 : Nat) (x1 : Int32) (M : ao_M) (ρ : ao_H) {y : Int32 × ao_M} (h : gX4_expect n r0 x1 M ρ = some y) : ao_A Γ uX4_expect d 0 0 [.ref (Γ.2.2.2 + r0), .int x1] (M, ρ) (ao_PI ρ y) := by
  refine ao_of (by decide) (ao_cat1 (Nat.le_of_ble_eq_true rfl)) (Nat.le_of_ble_eq_true rfl) ?_
  show ao_W Γ uX4_expect (ao_rm d 0 0) (ao_Q Γ (ao_PI ρ y) 0 0) 0 0 0 [some (.ref (Γ.2.2.2 + r0)), some (.int x1)] [] (M, ρ)
  unfold gX4_expect at h
  refine ao_aload_n 0 dX4_expect_0 rfl rfl ?_
  obtain ⟨hk1, h⟩ := ao_some h
  obtain ⟨j2, hj2, h⟩ := ao_bind h
  refine an_getR r0 4 0 (q := (RX4, TX4, 3)) dX4_expect_1 rfl hk1 (Nat.le_of_ble_eq_true rfl) rfl lf_X4_12 hj2 ?_
  obtain ⟨hk3, h⟩ := ao_some h
  refine an_getI j2 9 8 (q := (RX9, TX9, 11)) dX4_expect_4 rfl hk3 (Nat.le_of_ble_eq_true rfl) rfl lf_X4_42 ?_
  refine ao_iload_n 1 dX4_expect_7 rfl rfl ?_
  refine ao_icmp_eq 16 dX4_expect_8 (by decide) (fun c4 => ?_) (fun c4 => ?_)
  · replace h := ao_ifT h c4
    refine ao_aload_n 0 dX4_expect_16 rfl rfl ?_
    refine an_getR r0 4 0 (q := (RX4, TX4, 3)) dX4_expect_17 rfl hk1 (Nat.le_of_ble_eq_true rfl) rfl lf_X4_12 hj2 ?_
    obtain ⟨p5, hp5, h⟩ := ao_bind h
    refine an_callVv j2 9 (q := (RX9, TX9, 11)) [] (aX9_advance (d - 1) (by omega) _ j2 M ρ hp5) dX4_expect_20 lc_X4_52 li_X9_advance ls_X9_advance rfl hk3 rfl rfl (Nat.le_of_ble_eq_true rfl) (ao_hR (by omega) (by decide)) ?_
    refine ao_iconst (v := 1) dX4_expect_23 (by decide) ?_
    cases h
    exact ao_ireturn dX4_expect_24 rfl rfl ⟨rfl, rfl⟩
  · replace h := ao_ifF h c4
    refine ao_aload_n 0 dX4_expect_11 rfl rfl ?_
    obtain ⟨p6, hp6, h⟩ := ao_bind h
    refine an_callVi r0 4 (q := (RX4, TX4, 3)) [] (aX4_broken (d - 1) (by omega) r0 M ρ hp6) dX4_expect_12 lc_X4_45 li_X4_broken ls_X4_broken rfl hk1 rfl rfl (Nat.le_of_ble_eq_true rfl) (ao_hR (by omega) (by decide)) ?_
    obtain ⟨hz7, h⟩ := ao_some h
    cases h
    exact ao_ireturn dX4_expect_15 rfl (ao_nb hz7) ⟨rfl, rfl⟩

abbrev uX4_expectNested : ao_Mi := (yX4_expectNested, cX4_expectNested, 3, (some .boolean), [])
def gX4_expectNested (n : Nat) (r0 : Nat) (x1 : Int32) (x2 : Int32) (M : ao_M) (ρ : ao_H) : Option (Int32 × ao_M) :=
  if (10 : Int32) ≤ x2 then
    if ρ.2.1 r0 = 14 then
    (gX4_broken r0 M ρ).bind fun p3 =>
    if p3.1 = 0 ∨ p3.1 = 1 then
    some (p3.1, p3.2)
    else none
    else none
  else
    if ρ.2.1 r0 = 14 then
    (gX4_expect n r0 x1 M ρ).bind fun p6 =>
    if p6.1 = 0 ∨ p6.1 = 1 then
    some (p6.1, p6.2)
    else none
    else none
set_option maxRecDepth 100000 in
set_option maxHeartbeats 4000000 in
theorem aX4_expectNested {Γ : ao_C} (d : Nat) (hd : 2 ≤ d) (n : Nat) (r0 : Nat) (x1 : Int32) (x2 : Int32) (M : ao_M) (ρ : ao_H) {y : Int32 × ao_M} (h : gX4_expectNested n r0 x1 x2 M ρ = some y) : ao_A Γ uX4_expectNested d 0 0 [.ref (Γ.2.2.2 + r0), .int x1, .int x2] (M, ρ) (ao_PI ρ y) := by
  refine ao_of (by decide) (ao_cat1 (Nat.le_of_ble_eq_true rfl)) (Nat.le_of_ble_eq_true rfl) ?_
  show ao_W Γ uX4_expectNested (ao_rm d 0 0) (ao_Q Γ (ao_PI ρ y) 0 0) 0 0 0 [some (.ref (Γ.2.2.2 + r0)), some (.int x1), some (.int x2)] [] (M, ρ)
  unfold gX4_expectNested at h
  refine ao_iload_n 2 dX4_expectNested_0 rfl rfl ?_
  refine ao_bipush (v := 10) dX4_expectNested_1 (by decide) ?_
  refine ao_icmp_ge 14 dX4_expectNested_3 (by decide) (fun c1 => ?_) (fun c1 => ?_)
  · replace h := ao_ifT h c1
    refine ao_aload_n 0 dX4_expectNested_14 rfl rfl ?_
    obtain ⟨hk2, h⟩ := ao_some h
    obtain ⟨p3, hp3, h⟩ := ao_bind h
    refine an_callVi r0 4 (q := (RX4, TX4, 3)) [] (aX4_broken (d - 1) (by omega) r0 M ρ hp3) dX4_expectNested_15 lc_X4_45 li_X4_broken ls_X4_broken rfl hk2 rfl rfl (Nat.le_of_ble_eq_true rfl) (ao_hR (by omega) (by decide)) ?_
    obtain ⟨hz4, h⟩ := ao_some h
    cases h
    exact ao_ireturn dX4_expectNested_18 rfl (ao_nb hz4) ⟨rfl, rfl⟩
  · replace h := ao_ifF h c1
    refine ao_aload_n 0 dX4_expectNested_6 rfl rfl ?_
    refine ao_iload_n 1 dX4_expectNested_7 rfl rfl ?_
    obtain ⟨hk5, h⟩ := ao_some h
    obtain ⟨p6, hp6, h⟩ := ao_bind h
    refine an_callVi r0 4 (q := (RX4, TX4, 3)) [.int x1] (aX4_expect (d - 1) (by omega) _ r0 x1 M ρ hp6) dX4_expectNested_8 lc_X4_55 li_X4_expect ls_X4_expect rfl hk5 rfl rfl (Nat.le_of_ble_eq_true rfl) (ao_hR (by omega) (by decide)) ?_
    refine ao_goto 18 dX4_expectNested_11 (by decide) ?_
    obtain ⟨hz7, h⟩ := ao_some h
    cases h
    exact ao_ireturn dX4_expectNested_18 rfl (ao_nb hz7) ⟨rfl, rfl⟩

abbrev uX4_bareStatement : ao_Mi := (yX4_bareStatement, cX4_bareStatement, 3, (some .boolean), [])
def gX4_bareStatement (n : Nat) (r0 : Nat) (x1 : Int32) (x2 : Int32) (M : ao_M) (ρ : ao_H) : Option (Int32 × ao_M) :=
  if x2 = 0 then
    if ρ.2.1 r0 = 14 then
    (gX4_broken r0 M ρ).bind fun p12 =>
    if p12.1 = 0 ∨ p12.1 = 1 then
    some (p12.1, p12.2)
    else none
    else none
  else
    if ρ.2.1 r0 = 14 then
    (ρ.1 r0 0).bind fun j3 =>
    if ρ.2.1 j3 = 19 then
    (gX9_advance n j3 M ρ).bind fun p5 =>
    (ρ.1 r0 1).bind fun j6 =>
    if ρ.2.1 j6 = 11 then
    (gX1_add j6 x1 (0 : Int32) p5 ρ).bind fun p8 =>
    (gX4_expect n r0 (21 : Int32) p8.2 ρ).bind fun p9 =>
    if p9.1 = 0 ∨ p9.1 = 1 then
    some (p9.1, p9.2)
    else none
    else none
    else none
    else none
set_option maxRecDepth 100000 in
set_option maxHeartbeats 4000000 in
theorem aX4_bareStatement {Γ : ao_C} (d : Nat) (hd : 2 ≤ d) (n : Nat) (r0 : Nat) (x1 : Int32) (x2 : Int32) (M : ao_M) (ρ : ao_H) {y : Int32 × ao_M} (h : gX4_bareStatement n r0 x1 x2 M ρ = some y) : ao_A Γ uX4_bareStatement d 0 0 [.ref (Γ.2.2.2 + r0), .int x1, .int x2] (M, ρ) (ao_PI ρ y) := by
  refine ao_of (by decide) (ao_cat1 (Nat.le_of_ble_eq_true rfl)) (Nat.le_of_ble_eq_true rfl) ?_
  show ao_W Γ uX4_bareStatement (ao_rm d 0 0) (ao_Q Γ (ao_PI ρ y) 0 0) 0 0 0 [some (.ref (Γ.2.2.2 + r0)), some (.int x1), some (.int x2)] [] (M, ρ)
  unfold gX4_bareStatement at h
  refine ao_iload_n 2 dX4_bareStatement_0 rfl rfl ?_
  refine ao_if_ne 9 dX4_bareStatement_1 (by decide) (fun c1 => ?_) (fun c1 => ?_)
  · replace h := ao_ifF h c1
    refine ao_aload_n 0 dX4_bareStatement_9 rfl rfl ?_
    obtain ⟨hk2, h⟩ := ao_some h
    obtain ⟨j3, hj3, h⟩ := ao_bind h
    refine an_getR r0 4 0 (q := (RX4, TX4, 3)) dX4_bareStatement_10 rfl hk2 (Nat.le_of_ble_eq_true rfl) rfl lf_X4_12 hj3 ?_
    obtain ⟨hk4, h⟩ := ao_some h
    obtain ⟨p5, hp5, h⟩ := ao_bind h
    refine an_callVv j3 9 (q := (RX9, TX9, 11)) [] (aX9_advance (d - 1) (by omega) _ j3 M ρ hp5) dX4_bareStatement_13 lc_X4_52 li_X9_advance ls_X9_advance rfl hk4 rfl rfl (Nat.le_of_ble_eq_true rfl) (ao_hR (by omega) (by decide)) ?_
    refine ao_aload_n 0 dX4_bareStatement_16 rfl rfl ?_
    obtain ⟨j6, hj6, h⟩ := ao_bind h
    refine an_getR r0 4 1 (q := (RX4, TX4, 3)) dX4_bareStatement_17 rfl hk2 (Nat.le_of_ble_eq_true rfl) rfl lf_X4_23 hj6 ?_
    refine ao_iload_n 1 dX4_bareStatement_20 rfl rfl ?_
    refine ao_iconst (v := 0) dX4_bareStatement_21 (by decide) ?_
    obtain ⟨hk7, h⟩ := ao_some h
    obtain ⟨p8, hp8, h⟩ := ao_bind h
    refine an_callVi j6 1 (q := (RX1, TX1, 6)) [.int x1, .int (0 : Int32)] (aX1_add (d - 1) (by omega) j6 x1 (0 : Int32) p5 ρ hp8) dX4_bareStatement_22 lc_X4_97 li_X1_add ls_X1_add rfl hk7 rfl rfl (Nat.le_of_ble_eq_true rfl) (ao_hR (by omega) (by decide)) ?_
    refine ao_pop dX4_bareStatement_25 rfl ?_
    refine ao_aload_n 0 dX4_bareStatement_26 rfl rfl ?_
    refine ao_bipush (v := 21) dX4_bareStatement_27 (by decide) ?_
    obtain ⟨p9, hp9, h⟩ := ao_bind h
    refine an_callVi r0 4 (q := (RX4, TX4, 3)) [.int (21 : Int32)] (aX4_expect (d - 1) (by omega) _ r0 (21 : Int32) p8.2 ρ hp9) dX4_bareStatement_29 lc_X4_55 li_X4_expect ls_X4_expect rfl hk2 rfl rfl (Nat.le_of_ble_eq_true rfl) (ao_hR (by omega) (by decide)) ?_
    obtain ⟨hz10, h⟩ := ao_some h
    cases h
    exact ao_ireturn dX4_bareStatement_32 rfl (ao_nb hz10) ⟨rfl, rfl⟩
  · replace h := ao_ifT h c1
    refine ao_aload_n 0 dX4_bareStatement_4 rfl rfl ?_
    obtain ⟨hk11, h⟩ := ao_some h
    obtain ⟨p12, hp12, h⟩ := ao_bind h
    refine an_callVi r0 4 (q := (RX4, TX4, 3)) [] (aX4_broken (d - 1) (by omega) r0 M ρ hp12) dX4_bareStatement_5 lc_X4_45 li_X4_broken ls_X4_broken rfl hk11 rfl rfl (Nat.le_of_ble_eq_true rfl) (ao_hR (by omega) (by decide)) ?_
    obtain ⟨hz13, h⟩ := ao_some h
    cases h
    exact ao_ireturn dX4_bareStatement_8 rfl (ao_nb hz13) ⟨rfl, rfl⟩

abbrev uX4_leaf : ao_Mi := (yX4_leaf, cX4_leaf, 2, (some .boolean), [])
def gX4_leaf (n : Nat) (r0 : Nat) (x1 : Int32) (M : ao_M) (ρ : ao_H) : Option (Int32 × ao_M) :=
  if ρ.2.1 r0 = 14 then
  (ρ.1 r0 1).bind fun j2 =>
  (ρ.1 r0 0).bind fun j3 =>
  if ρ.2.1 j3 = 19 then
  if ρ.2.1 j2 = 11 then
  (gX1_add j2 x1 (M j3 10) M ρ).bind fun p6 =>
  (gX9_advance n j3 p6.2 ρ).bind fun p7 =>
  some ((1 : Int32), p7)
  else none
  else none
  else none
set_option maxRecDepth 100000 in
set_option maxHeartbeats 4000000 in
theorem aX4_leaf {Γ : ao_C} (d : Nat) (hd : 1 ≤ d) (n : Nat) (r0 : Nat) (x1 : Int32) (M : ao_M) (ρ : ao_H) {y : Int32 × ao_M} (h : gX4_leaf n r0 x1 M ρ = some y) : ao_A Γ uX4_leaf d 0 0 [.ref (Γ.2.2.2 + r0), .int x1] (M, ρ) (ao_PI ρ y) := by
  refine ao_of (by decide) (ao_cat1 (Nat.le_of_ble_eq_true rfl)) (Nat.le_of_ble_eq_true rfl) ?_
  show ao_W Γ uX4_leaf (ao_rm d 0 0) (ao_Q Γ (ao_PI ρ y) 0 0) 0 0 0 [some (.ref (Γ.2.2.2 + r0)), some (.int x1)] [] (M, ρ)
  unfold gX4_leaf at h
  refine ao_aload_n 0 dX4_leaf_0 rfl rfl ?_
  obtain ⟨hk1, h⟩ := ao_some h
  obtain ⟨j2, hj2, h⟩ := ao_bind h
  refine an_getR r0 4 1 (q := (RX4, TX4, 3)) dX4_leaf_1 rfl hk1 (Nat.le_of_ble_eq_true rfl) rfl lf_X4_23 hj2 ?_
  refine ao_iload_n 1 dX4_leaf_4 rfl rfl ?_
  refine ao_aload_n 0 dX4_leaf_5 rfl rfl ?_
  obtain ⟨j3, hj3, h⟩ := ao_bind h
  refine an_getR r0 4 0 (q := (RX4, TX4, 3)) dX4_leaf_6 rfl hk1 (Nat.le_of_ble_eq_true rfl) rfl lf_X4_12 hj3 ?_
  obtain ⟨hk4, h⟩ := ao_some h
  refine an_getI j3 9 10 (q := (RX9, TX9, 11)) dX4_leaf_9 rfl hk4 (Nat.le_of_ble_eq_true rfl) rfl lf_X4_91 ?_
  obtain ⟨hk5, h⟩ := ao_some h
  obtain ⟨p6, hp6, h⟩ := ao_bind h
  refine an_callVi j2 1 (q := (RX1, TX1, 6)) [.int x1, .int (M j3 10)] (aX1_add (d - 1) (by omega) j2 x1 (M j3 10) M ρ hp6) dX4_leaf_12 lc_X4_97 li_X1_add ls_X1_add rfl hk5 rfl rfl (Nat.le_of_ble_eq_true rfl) (ao_hR (by omega) (by decide)) ?_
  refine ao_pop dX4_leaf_15 rfl ?_
  refine ao_aload_n 0 dX4_leaf_16 rfl rfl ?_
  refine an_getR r0 4 0 (q := (RX4, TX4, 3)) dX4_leaf_17 rfl hk1 (Nat.le_of_ble_eq_true rfl) rfl lf_X4_12 hj3 ?_
  obtain ⟨p7, hp7, h⟩ := ao_bind h
  refine an_callVv j3 9 (q := (RX9, TX9, 11)) [] (aX9_advance (d - 1) (by omega) _ j3 p6.2 ρ hp7) dX4_leaf_20 lc_X4_52 li_X9_advance ls_X9_advance rfl hk4 rfl rfl (Nat.le_of_ble_eq_true rfl) (ao_hR (by omega) (by decide)) ?_
  refine ao_iconst (v := 1) dX4_leaf_23 (by decide) ?_
  cases h
  exact ao_ireturn dX4_leaf_24 rfl rfl ⟨rfl, rfl⟩
