abbrev uX4_valueStatement : ao_Mi := (yX4_valueStatement, cX4_valueStatement, 3, (some .boolean), [])
def gX4_valueStatement (n : Nat) (r0 : Nat) (x1 : Int32) (x2 : Int32) (M : ao_M) (ρ : ao_H) : Option (Int32 × ao_M) :=
  if ρ.2.1 r0 = 14 then
  (ρ.1 r0 0).bind fun j2 =>
  if ρ.2.1 j2 = 19 then
  (gX9_advance n j2 M ρ).bind fun p4 =>
  (gX4_expression n r0 x2 p4 ρ).bind fun p5 =>
  if p5.1 = 0 then
    some ((0 : Int32), p5.2)
  else
    (ρ.1 r0 1).bind fun j7 =>
    if ρ.2.1 j7 = 11 then
    (gX1_add j7 x1 (0 : Int32) p5.2 ρ).bind fun p9 =>
    (gX4_expect n r0 (21 : Int32) p9.2 ρ).bind fun p10 =>
    if p10.1 = 0 ∨ p10.1 = 1 then
    some (p10.1, p10.2)
    else none
    else none
  else none
  else none
set_option maxRecDepth 100000 in
set_option maxHeartbeats 4000000 in
theorem aX4_valueStatement {Γ : ao_C} (d : Nat) (hd : 68 ≤ d) (n : Nat) (r0 : Nat) (x1 : Int32) (x2 : Int32) (M : ao_M) (ρ : ao_H) {y : Int32 × ao_M} (h : gX4_valueStatement n r0 x1 x2 M ρ = some y) : ao_A Γ uX4_valueStatement d 0 0 [.ref (Γ.2.2.2 + r0), .int x1, .int x2] (M, ρ) (ao_PI ρ y) := by
  refine ao_of (by decide) (ao_cat1 (Nat.le_of_ble_eq_true rfl)) (Nat.le_of_ble_eq_true rfl) ?_
  show ao_W Γ uX4_valueStatement (ao_rm d 0 0) (ao_Q Γ (ao_PI ρ y) 0 0) 0 0 0 [some (.ref (Γ.2.2.2 + r0)), some (.int x1), some (.int x2)] [] (M, ρ)
  unfold gX4_valueStatement at h
  refine ao_aload_n 0 dX4_valueStatement_0 rfl rfl ?_
  obtain ⟨hk1, h⟩ := ao_some h
  obtain ⟨j2, hj2, h⟩ := ao_bind h
  refine an_getR r0 4 0 (q := (RX4, TX4, 3)) dX4_valueStatement_1 rfl hk1 (Nat.le_of_ble_eq_true rfl) rfl lf_X4_12 hj2 ?_
  obtain ⟨hk3, h⟩ := ao_some h
  obtain ⟨p4, hp4, h⟩ := ao_bind h
  refine an_callVv j2 9 (q := (RX9, TX9, 11)) [] (aX9_advance (d - 1) (by omega) _ j2 M ρ hp4) dX4_valueStatement_4 lc_X4_52 li_X9_advance ls_X9_advance rfl hk3 rfl rfl (Nat.le_of_ble_eq_true rfl) (ao_hR (by omega) (by decide)) ?_
  refine ao_aload_n 0 dX4_valueStatement_7 rfl rfl ?_
  refine ao_iload_n 2 dX4_valueStatement_8 rfl rfl ?_
  obtain ⟨p5, hp5, h⟩ := ao_bind h
  refine an_callVi r0 4 (q := (RX4, TX4, 3)) [.int x2] (aX4_expression (d - 1) (by omega) _ r0 x2 p4 ρ hp5) dX4_valueStatement_9 lc_X4_93 li_X4_expression ls_X4_expression rfl hk1 rfl rfl (Nat.le_of_ble_eq_true rfl) (ao_hR (by omega) (by decide)) ?_
  refine ao_if_ne 17 dX4_valueStatement_12 (by decide) (fun c6 => ?_) (fun c6 => ?_)
  · replace h := ao_ifF h c6
    refine ao_aload_n 0 dX4_valueStatement_17 rfl rfl ?_
    obtain ⟨j7, hj7, h⟩ := ao_bind h
    refine an_getR r0 4 1 (q := (RX4, TX4, 3)) dX4_valueStatement_18 rfl hk1 (Nat.le_of_ble_eq_true rfl) rfl lf_X4_23 hj7 ?_
    refine ao_iload_n 1 dX4_valueStatement_21 rfl rfl ?_
    refine ao_iconst (v := 0) dX4_valueStatement_22 (by decide) ?_
    obtain ⟨hk8, h⟩ := ao_some h
    obtain ⟨p9, hp9, h⟩ := ao_bind h
    refine an_callVi j7 1 (q := (RX1, TX1, 6)) [.int x1, .int (0 : Int32)] (aX1_add (d - 1) (by omega) j7 x1 (0 : Int32) p5.2 ρ hp9) dX4_valueStatement_23 lc_X4_96 li_X1_add ls_X1_add rfl hk8 rfl rfl (Nat.le_of_ble_eq_true rfl) (ao_hR (by omega) (by decide)) ?_
    refine ao_pop dX4_valueStatement_26 rfl ?_
    refine ao_aload_n 0 dX4_valueStatement_27 rfl rfl ?_
    refine ao_bipush (v := 21) dX4_valueStatement_28 (by decide) ?_
    obtain ⟨p10, hp10, h⟩ := ao_bind h
    refine an_callVi r0 4 (q := (RX4, TX4, 3)) [.int (21 : Int32)] (aX4_expect (d - 1) (by omega) _ r0 (21 : Int32) p9.2 ρ hp10) dX4_valueStatement_30 lc_X4_55 li_X4_expect ls_X4_expect rfl hk1 rfl rfl (Nat.le_of_ble_eq_true rfl) (ao_hR (by omega) (by decide)) ?_
    obtain ⟨hz11, h⟩ := ao_some h
    cases h
    exact ao_ireturn dX4_valueStatement_33 rfl (ao_nb hz11) ⟨rfl, rfl⟩
  · replace h := ao_ifT h c6
    refine ao_iconst (v := 0) dX4_valueStatement_15 (by decide) ?_
    cases h
    exact ao_ireturn dX4_valueStatement_16 rfl rfl ⟨rfl, rfl⟩

abbrev uX4_condition : ao_Mi := (yX4_condition, cX4_condition, 2, (some .boolean), [])
def gX4_condition (n : Nat) (r0 : Nat) (x1 : Int32) (M : ao_M) (ρ : ao_H) : Option (Int32 × ao_M) :=
  if ρ.2.1 r0 = 14 then
  (ρ.1 r0 0).bind fun j2 =>
  if ρ.2.1 j2 = 19 then
  (gX9_advance n j2 M ρ).bind fun p4 =>
  (gX4_expectNested n r0 (19 : Int32) x1 p4 ρ).bind fun p5 =>
  if p5.1 = 0 then
    some ((0 : Int32), p5.2)
  else
    (gX4_expression n r0 (x1 + (1 : Int32)) p5.2 ρ).bind fun p7 =>
    if p7.1 = 0 then
      some ((0 : Int32), p7.2)
    else
      (gX4_expect n r0 (20 : Int32) p7.2 ρ).bind fun p9 =>
      if p9.1 = 0 then
        some ((0 : Int32), p9.2)
      else
        some ((1 : Int32), p9.2)
  else none
  else none
set_option maxRecDepth 100000 in
set_option maxHeartbeats 4000000 in
theorem aX4_condition {Γ : ao_C} (d : Nat) (hd : 68 ≤ d) (n : Nat) (r0 : Nat) (x1 : Int32) (M : ao_M) (ρ : ao_H) {y : Int32 × ao_M} (h : gX4_condition n r0 x1 M ρ = some y) : ao_A Γ uX4_condition d 0 0 [.ref (Γ.2.2.2 + r0), .int x1] (M, ρ) (ao_PI ρ y) := by
  refine ao_of (by decide) (ao_cat1 (Nat.le_of_ble_eq_true rfl)) (Nat.le_of_ble_eq_true rfl) ?_
  show ao_W Γ uX4_condition (ao_rm d 0 0) (ao_Q Γ (ao_PI ρ y) 0 0) 0 0 0 [some (.ref (Γ.2.2.2 + r0)), some (.int x1)] [] (M, ρ)
  unfold gX4_condition at h
  refine ao_aload_n 0 dX4_condition_0 rfl rfl ?_
  obtain ⟨hk1, h⟩ := ao_some h
  obtain ⟨j2, hj2, h⟩ := ao_bind h
  refine an_getR r0 4 0 (q := (RX4, TX4, 3)) dX4_condition_1 rfl hk1 (Nat.le_of_ble_eq_true rfl) rfl lf_X4_12 hj2 ?_
  obtain ⟨hk3, h⟩ := ao_some h
  obtain ⟨p4, hp4, h⟩ := ao_bind h
  refine an_callVv j2 9 (q := (RX9, TX9, 11)) [] (aX9_advance (d - 1) (by omega) _ j2 M ρ hp4) dX4_condition_4 lc_X4_52 li_X9_advance ls_X9_advance rfl hk3 rfl rfl (Nat.le_of_ble_eq_true rfl) (ao_hR (by omega) (by decide)) ?_
  refine ao_aload_n 0 dX4_condition_7 rfl rfl ?_
  refine ao_bipush (v := 19) dX4_condition_8 (by decide) ?_
  refine ao_iload_n 1 dX4_condition_10 rfl rfl ?_
  obtain ⟨p5, hp5, h⟩ := ao_bind h
  refine an_callVi r0 4 (q := (RX4, TX4, 3)) [.int (19 : Int32), .int x1] (aX4_expectNested (d - 1) (by omega) _ r0 (19 : Int32) x1 p4 ρ hp5) dX4_condition_11 lc_X4_62 li_X4_expectNested ls_X4_expectNested rfl hk1 rfl rfl (Nat.le_of_ble_eq_true rfl) (ao_hR (by omega) (by decide)) ?_
  refine ao_if_eq 40 dX4_condition_14 (by decide) (fun c6 => ?_) (fun c6 => ?_)
  · replace h := ao_ifT h c6
    refine ao_iconst (v := 0) dX4_condition_40 (by decide) ?_
    cases h
    exact ao_ireturn dX4_condition_41 rfl rfl ⟨rfl, rfl⟩
  · replace h := ao_ifF h c6
    refine ao_aload_n 0 dX4_condition_17 rfl rfl ?_
    refine ao_iload_n 1 dX4_condition_18 rfl rfl ?_
    refine ao_iconst (v := 1) dX4_condition_19 (by decide) ?_
    refine ao_iadd dX4_condition_20 ?_
    obtain ⟨p7, hp7, h⟩ := ao_bind h
    refine an_callVi r0 4 (q := (RX4, TX4, 3)) [.int (x1 + (1 : Int32))] (aX4_expression (d - 1) (by omega) _ r0 (x1 + (1 : Int32)) p5.2 ρ hp7) dX4_condition_21 lc_X4_93 li_X4_expression ls_X4_expression rfl hk1 rfl rfl (Nat.le_of_ble_eq_true rfl) (ao_hR (by omega) (by decide)) ?_
    refine ao_if_eq 40 dX4_condition_24 (by decide) (fun c8 => ?_) (fun c8 => ?_)
    · replace h := ao_ifT h c8
      refine ao_iconst (v := 0) dX4_condition_40 (by decide) ?_
      cases h
      exact ao_ireturn dX4_condition_41 rfl rfl ⟨rfl, rfl⟩
    · replace h := ao_ifF h c8
      refine ao_aload_n 0 dX4_condition_27 rfl rfl ?_
      refine ao_bipush (v := 20) dX4_condition_28 (by decide) ?_
      obtain ⟨p9, hp9, h⟩ := ao_bind h
      refine an_callVi r0 4 (q := (RX4, TX4, 3)) [.int (20 : Int32)] (aX4_expect (d - 1) (by omega) _ r0 (20 : Int32) p7.2 ρ hp9) dX4_condition_30 lc_X4_55 li_X4_expect ls_X4_expect rfl hk1 rfl rfl (Nat.le_of_ble_eq_true rfl) (ao_hR (by omega) (by decide)) ?_
      refine ao_if_eq 40 dX4_condition_33 (by decide) (fun c10 => ?_) (fun c10 => ?_)
      · replace h := ao_ifT h c10
        refine ao_iconst (v := 0) dX4_condition_40 (by decide) ?_
        cases h
        exact ao_ireturn dX4_condition_41 rfl rfl ⟨rfl, rfl⟩
      · replace h := ao_ifF h c10
        refine ao_iconst (v := 1) dX4_condition_36 (by decide) ?_
        refine ao_goto 41 dX4_condition_37 (by decide) ?_
        cases h
        exact ao_ireturn dX4_condition_41 rfl rfl ⟨rfl, rfl⟩

abbrev uX9_wordKind : ao_Mi := (yX9_wordKind, cX9_wordKind, 2, (some .int), [])
def fX9_wordKind : Nat → Nat → Nat → Int32 → Int32 → Nat →  ao_M → ao_H → Option (Int32 × ao_M)
  | 0, _, _, _, _, _, _, _ => none
  | n + 1, pc, r0, x1, s0, q1, M, ρ =>
    if pc = 0 then
      if ρ.2.1 r0 = 19 then
      if (M r0 1) ≤ (M r0 2) then
        fX9_wordKind n 38 r0 0 0 0 M ρ
      else
        (gX9_byteAt r0 (M r0 2) M ρ).bind fun p3 =>
        (gX9_isLetter n p3.1 p3.2 ρ).bind fun p4 =>
        if p4.1 = 0 then
          fX9_wordKind n 38 r0 0 0 0 p4.2 ρ
        else
          ao_let (ao_u p4.2 r0 2 ((p4.2 r0 2) + (1 : Int32))) fun M6 =>
          fX9_wordKind n 0 r0 0 0 0 M6 ρ
      else none
    else if pc = 38 then
      if ρ.2.1 r0 = 19 then
      if ((M r0 2) - (M r0 9)) = (1 : Int32) then
        (gX9_byteAt r0 (M r0 9) M ρ).bind fun p10 =>
        ao_let p10.1 fun v11 =>
        (gX9_isSmall v11 p10.2 ρ).bind fun p12 =>
        if p12.1 = 0 then
          fX9_wordKind n 79 r0 v11 (v11 - (65 : Int32)) r0 p12.2 ρ
        else
          fX9_wordKind n 79 r0 v11 (v11 - (97 : Int32)) r0 p12.2 ρ
      else
        (gX9_keywordKind n r0 M ρ).bind fun p9 =>
        some (p9.1, p9.2)
      else none
    else if pc = 79 then
      if ρ.2.1 q1 = 19 then
      ao_let (ao_u M q1 10 s0) fun M15 =>
      (gX9_isSmall x1 M15 ρ).bind fun p16 =>
      if p16.1 = 0 then
        some ((3 : Int32), p16.2)
      else
        some ((2 : Int32), p16.2)
      else none
    else none
def gX9_wordKind (n : Nat) (r0 : Nat) (M : ao_M) (ρ : ao_H) : Option (Int32 × ao_M) := fX9_wordKind n 0 r0 0 0 0 M ρ
set_option maxRecDepth 100000 in
set_option maxHeartbeats 4000000 in
theorem wX9_wordKind {Γ : ao_C} {ρ : ao_H} (d : Nat) (hd : 6 ≤ d) : ∀ n : Nat, (∀ (r0 : Nat) (M : ao_M) (y : Int32 × ao_M), fX9_wordKind n 0 r0 0 0 0 M ρ = some y → ao_W Γ uX9_wordKind (ao_rm d 0 0) (ao_Q Γ (ao_PI ρ y) 0 0) 0 0 0 [some (.ref (Γ.2.2.2 + r0)), none] [] (M, ρ)) ∧ (∀ (r0 : Nat) (M : ao_M) (y : Int32 × ao_M), fX9_wordKind n 38 r0 0 0 0 M ρ = some y → ao_W Γ uX9_wordKind (ao_rm d 0 0) (ao_Q Γ (ao_PI ρ y) 0 0) 0 0 38 [some (.ref (Γ.2.2.2 + r0)), none] [] (M, ρ)) ∧ (∀ (r0 : Nat) (x1 : Int32) (s0 : Int32) (q1 : Nat) (M : ao_M) (y : Int32 × ao_M), fX9_wordKind n 79 r0 x1 s0 q1 M ρ = some y → ao_W Γ uX9_wordKind (ao_rm d 0 0) (ao_Q Γ (ao_PI ρ y) 0 0) 0 0 79 [some (.ref (Γ.2.2.2 + r0)), some (.int x1)] [.int s0, .ref (Γ.2.2.2 + q1)] (M, ρ)) := by
  intro n
  induction n with
  | zero => exact ⟨fun _ _ _ h => ao_no h, fun _ _ _ h => ao_no h, fun _ _ _ _ _ _ h => ao_no h⟩
  | succ n ih =>
    refine ⟨?_, ?_, ?_⟩
    · intro r0 M y h
      replace h := ao_ifT h rfl
      refine ao_aload_n 0 dX9_wordKind_0 rfl rfl ?_
      obtain ⟨hk1, h⟩ := ao_some h
      refine an_getI r0 9 2 (q := (RX9, TX9, 11)) dX9_wordKind_1 rfl hk1 (Nat.le_of_ble_eq_true rfl) rfl lf_X9_29 ?_
      refine ao_aload_n 0 dX9_wordKind_4 rfl rfl ?_
      refine an_getI r0 9 1 (q := (RX9, TX9, 11)) dX9_wordKind_5 rfl hk1 (Nat.le_of_ble_eq_true rfl) rfl lf_X9_25 ?_
      refine ao_icmp_ge 38 dX9_wordKind_8 (by decide) (fun c2 => ?_) (fun c2 => ?_)
      · replace h := ao_ifT h c2
        exact ih.2.1 r0 M _ h
      · replace h := ao_ifF h c2
        refine ao_aload_n 0 dX9_wordKind_11 rfl rfl ?_
        refine ao_aload_n 0 dX9_wordKind_12 rfl rfl ?_
        refine an_getI r0 9 2 (q := (RX9, TX9, 11)) dX9_wordKind_13 rfl hk1 (Nat.le_of_ble_eq_true rfl) rfl lf_X9_29 ?_
        obtain ⟨p3, hp3, h⟩ := ao_bind h
        refine an_callVi r0 9 (q := (RX9, TX9, 11)) [.int (M r0 2)] (aX9_byteAt (d - 1) (by omega) r0 (M r0 2) M ρ hp3) dX9_wordKind_16 lc_X9_53 li_X9_byteAt ls_X9_byteAt rfl hk1 rfl rfl (Nat.le_of_ble_eq_true rfl) (ao_hR (by omega) (by decide)) ?_
        obtain ⟨p4, hp4, h⟩ := ao_bind h
        refine an_callSi [.int p3.1] (aX9_isLetter (d - 1) (by omega) _ p3.1 p3.2 ρ hp4) dX9_wordKind_19 lc_X9_61 lt_X9_isLetter rfl rfl (Nat.le_of_ble_eq_true rfl) (ao_hR (by omega) (by decide)) ?_
        refine ao_if_eq 38 dX9_wordKind_22 (by decide) (fun c5 => ?_) (fun c5 => ?_)
        · replace h := ao_ifT h c5
          exact ih.2.1 r0 p4.2 _ h
        · replace h := ao_ifF h c5
          refine ao_aload_n 0 dX9_wordKind_25 rfl rfl ?_
          refine ao_dup dX9_wordKind_26 rfl ?_
          refine an_getI r0 9 2 (q := (RX9, TX9, 11)) dX9_wordKind_27 rfl hk1 (Nat.le_of_ble_eq_true rfl) rfl lf_X9_29 ?_
          refine ao_iconst (v := 1) dX9_wordKind_30 (by decide) ?_
          refine ao_iadd dX9_wordKind_31 ?_
          refine an_putI r0 9 2 (q := (RX9, TX9, 11)) dX9_wordKind_32 rfl hk1 (Nat.le_of_ble_eq_true rfl) lf_X9_29 rfl rfl rfl rfl (fun M6 hM6 => ?_)
          replace h := ao_letD h hM6
          refine ao_goto 0 dX9_wordKind_35 (by decide) ?_
          exact ih.1 r0 M6 _ h
    · intro r0 M y h
      replace h := ao_ifF h (by decide)
      replace h := ao_ifT h rfl
      refine ao_aload_n 0 dX9_wordKind_38 rfl rfl ?_
      obtain ⟨hk7, h⟩ := ao_some h
      refine an_getI r0 9 2 (q := (RX9, TX9, 11)) dX9_wordKind_39 rfl hk7 (Nat.le_of_ble_eq_true rfl) rfl lf_X9_29 ?_
      refine ao_aload_n 0 dX9_wordKind_42 rfl rfl ?_
      refine an_getI r0 9 9 (q := (RX9, TX9, 11)) dX9_wordKind_43 rfl hk7 (Nat.le_of_ble_eq_true rfl) rfl lf_X9_41 ?_
      refine ao_isub dX9_wordKind_46 ?_
      refine ao_iconst (v := 1) dX9_wordKind_47 (by decide) ?_
      refine ao_icmp_ne 95 dX9_wordKind_48 (by decide) (fun c8 => ?_) (fun c8 => ?_)
      · replace h := ao_ifF h c8
        refine ao_aload_n 0 dX9_wordKind_95 rfl rfl ?_
        obtain ⟨p9, hp9, h⟩ := ao_bind h
        refine an_callVi r0 9 (q := (RX9, TX9, 11)) [] (aX9_keywordKind (d - 1) (by omega) _ r0 M ρ hp9) dX9_wordKind_96 lc_X9_80 li_X9_keywordKind ls_X9_keywordKind rfl hk7 rfl rfl (Nat.le_of_ble_eq_true rfl) (ao_hR (by omega) (by decide)) ?_
        cases h
        exact ao_ireturn dX9_wordKind_99 rfl rfl ⟨rfl, rfl⟩
      · replace h := ao_ifT h c8
        refine ao_aload_n 0 dX9_wordKind_51 rfl rfl ?_
        refine ao_aload_n 0 dX9_wordKind_52 rfl rfl ?_
        refine an_getI r0 9 9 (q := (RX9, TX9, 11)) dX9_wordKind_53 rfl hk7 (Nat.le_of_ble_eq_true rfl) rfl lf_X9_41 ?_
        obtain ⟨p10, hp10, h⟩ := ao_bind h
        refine an_callVi r0 9 (q := (RX9, TX9, 11)) [.int (M r0 9)] (aX9_byteAt (d - 1) (by omega) r0 (M r0 9) M ρ hp10) dX9_wordKind_56 lc_X9_53 li_X9_byteAt ls_X9_byteAt rfl hk7 rfl rfl (Nat.le_of_ble_eq_true rfl) (ao_hR (by omega) (by decide)) ?_
        refine an_topi (fun v11 hv11 => ?_)
        replace h := ao_letD h hv11
        refine ao_istore_n 1 (lo' := [some (.ref (Γ.2.2.2 + r0)), some (.int v11)]) dX9_wordKind_59 rfl (Nat.le_of_ble_eq_true rfl) rfl ?_
        refine ao_aload_n 0 dX9_wordKind_60 rfl rfl ?_
        refine ao_iload_n 1 dX9_wordKind_61 rfl rfl ?_
        obtain ⟨p12, hp12, h⟩ := ao_bind h
        refine an_callSi [.int v11] (aX9_isSmall (d - 1) (by omega) v11 p10.2 ρ hp12) dX9_wordKind_62 lc_X9_77 lt_X9_isSmall rfl rfl (Nat.le_of_ble_eq_true rfl) (ao_hR (by omega) (by decide)) ?_
        refine ao_if_eq 75 dX9_wordKind_65 (by decide) (fun c13 => ?_) (fun c13 => ?_)
        · replace h := ao_ifT h c13
          refine ao_iload_n 1 dX9_wordKind_75 rfl rfl ?_
          refine ao_bipush (v := 65) dX9_wordKind_76 (by decide) ?_
          refine ao_isub dX9_wordKind_78 ?_
          exact ih.2.2 r0 v11 (v11 - (65 : Int32)) r0 p12.2 _ h
        · replace h := ao_ifF h c13
          refine ao_iload_n 1 dX9_wordKind_68 rfl rfl ?_
          refine ao_bipush (v := 97) dX9_wordKind_69 (by decide) ?_
          refine ao_isub dX9_wordKind_71 ?_
          refine ao_goto 79 dX9_wordKind_72 (by decide) ?_
          exact ih.2.2 r0 v11 (v11 - (97 : Int32)) r0 p12.2 _ h
    · intro r0 x1 s0 q1 M y h
      replace h := ao_ifF h (by decide)
      replace h := ao_ifF h (by decide)
      replace h := ao_ifT h rfl
      obtain ⟨hk14, h⟩ := ao_some h
      refine an_putI q1 9 10 (q := (RX9, TX9, 11)) dX9_wordKind_79 rfl hk14 (Nat.le_of_ble_eq_true rfl) lf_X9_44 rfl rfl rfl rfl (fun M15 hM15 => ?_)
      replace h := ao_letD h hM15
      refine ao_iload_n 1 dX9_wordKind_82 rfl rfl ?_
      obtain ⟨p16, hp16, h⟩ := ao_bind h
      refine an_callSi [.int x1] (aX9_isSmall (d - 1) (by omega) x1 M15 ρ hp16) dX9_wordKind_83 lc_X9_77 lt_X9_isSmall rfl rfl (Nat.le_of_ble_eq_true rfl) (ao_hR (by omega) (by decide)) ?_
      refine ao_if_eq 93 dX9_wordKind_86 (by decide) (fun c17 => ?_) (fun c17 => ?_)
      · replace h := ao_ifT h c17
        refine ao_iconst (v := 3) dX9_wordKind_93 (by decide) ?_
        cases h
        exact ao_ireturn dX9_wordKind_94 rfl rfl ⟨rfl, rfl⟩
      · replace h := ao_ifF h c17
        refine ao_iconst (v := 2) dX9_wordKind_89 (by decide) ?_
        refine ao_goto 94 dX9_wordKind_90 (by decide) ?_
        cases h
        exact ao_ireturn dX9_wordKind_94 rfl rfl ⟨rfl, rfl⟩
set_option maxRecDepth 100000 in
set_option maxHeartbeats 4000000 in
theorem aX9_wordKind {Γ : ao_C} (d : Nat) (hd : 6 ≤ d) (n : Nat) (r0 : Nat) (M : ao_M) (ρ : ao_H) {y : Int32 × ao_M} (h : gX9_wordKind n r0 M ρ = some y) : ao_A Γ uX9_wordKind d 0 0 [.ref (Γ.2.2.2 + r0)] (M, ρ) (ao_PI ρ y) := by
  refine ao_of (by decide) (ao_cat1 (Nat.le_of_ble_eq_true rfl)) (Nat.le_of_ble_eq_true rfl) ?_
  show ao_W Γ uX9_wordKind (ao_rm d 0 0) (ao_Q Γ (ao_PI ρ y) 0 0) 0 0 0 [some (.ref (Γ.2.2.2 + r0)), none] [] (M, ρ)
  exact (wX9_wordKind d hd n).1 r0 M y h

abbrev uX10_init : ao_Mi := (yX10_init, cX10_init, 1, none, [])
def fX10_init : Nat → Nat → Nat → Nat → Nat →  ao_M → ao_H → Option (ao_S)
  | 0, _, _, _, _, _, _ => none
  | n + 1, pc, r0, q0, q1, M, ρ =>
    if pc = 0 then
      (ρ.2.2.2.1).bind fun n1 =>
      if ¬ (1000 : Int32) < 0 ∧ (1000 : Int32).toNatClampNeg * 8 ≤ 536870912 then
      fX10_init n 10 r0 n1 r0 (ao_zr M n1) (ao_nw ρ n1 1 (1000 : Int32).toNatClampNeg (1000 : Int32).toNatClampNeg)
      else none
    else if pc = 10 then
      if ρ.2.1 q1 = 20 then
      fX10_init n 13 r0 0 0 M (ao_r ρ q1 0 (some q0))
      else none
    else if pc = 13 then
      (ρ.2.2.2.1).bind fun n4 =>
      fX10_init n 17 r0 n4 r0 (ao_zr M n4) (ao_nw ρ n4 14 0 3)
    else if pc = 17 then
      (gX4_init n q0 M ρ).bind fun p5 =>
      fX10_init n 21 r0 q0 q1 p5.1 p5.2
    else if pc = 21 then
      if ρ.2.1 q1 = 20 then
      fX10_init n 24 r0 0 0 M (ao_r ρ q1 1 (some q0))
      else none
    else if pc = 24 then
      (ρ.2.2.2.1).bind fun n7 =>
      fX10_init n 28 r0 n7 r0 (ao_zr M n7) (ao_nw ρ n7 12 0 7)
    else if pc = 28 then
      (gX2_init n q0 M ρ).bind fun p8 =>
      fX10_init n 32 r0 q0 q1 p8.1 p8.2
    else if pc = 32 then
      if ρ.2.1 q1 = 20 then
      fX10_init n 35 r0 0 0 M (ao_r ρ q1 2 (some q0))
      else none
    else if pc = 35 then
      (ρ.2.2.2.1).bind fun n10 =>
      fX10_init n 39 r0 n10 r0 (ao_zr M n10) (ao_nw ρ n10 10 0 5)
    else if pc = 39 then
      (gX0_init n q0 M ρ).bind fun p11 =>
      fX10_init n 43 r0 q0 q1 p11.1 p11.2
    else if pc = 43 then
      if ρ.2.1 q1 = 20 then
      fX10_init n 46 r0 0 0 M (ao_r ρ q1 3 (some q0))
      else none
    else if pc = 46 then
      if ρ.2.1 r0 = 20 then
      ao_let (ao_u M r0 4 (0 : Int32)) fun M14 =>
      ao_let (ao_u M14 r0 5 (-1 : Int32)) fun M15 =>
      some (M15, ρ)
      else none
    else none
def gX10_init (n : Nat) (r0 : Nat) (M : ao_M) (ρ : ao_H) : Option (ao_S) := fX10_init n 0 r0 0 0 M ρ
set_option maxRecDepth 100000 in
set_option maxHeartbeats 4000000 in
theorem mX10_init : ∀ n : Nat, (∀ (r0 : Nat) (M : ao_M) (ρ : ao_H) (y : ao_S), fX10_init n 0 r0 0 0 M ρ = some y → ao_le ρ y.2) ∧ (∀ (r0 : Nat) (q0 : Nat) (q1 : Nat) (M : ao_M) (ρ : ao_H) (y : ao_S), fX10_init n 10 r0 q0 q1 M ρ = some y → ao_le ρ y.2) ∧ (∀ (r0 : Nat) (M : ao_M) (ρ : ao_H) (y : ao_S), fX10_init n 13 r0 0 0 M ρ = some y → ao_le ρ y.2) ∧ (∀ (r0 : Nat) (q0 : Nat) (q1 : Nat) (M : ao_M) (ρ : ao_H) (y : ao_S), fX10_init n 17 r0 q0 q1 M ρ = some y → ao_le ρ y.2) ∧ (∀ (r0 : Nat) (q0 : Nat) (q1 : Nat) (M : ao_M) (ρ : ao_H) (y : ao_S), fX10_init n 21 r0 q0 q1 M ρ = some y → ao_le ρ y.2) ∧ (∀ (r0 : Nat) (M : ao_M) (ρ : ao_H) (y : ao_S), fX10_init n 24 r0 0 0 M ρ = some y → ao_le ρ y.2) ∧ (∀ (r0 : Nat) (q0 : Nat) (q1 : Nat) (M : ao_M) (ρ : ao_H) (y : ao_S), fX10_init n 28 r0 q0 q1 M ρ = some y → ao_le ρ y.2) ∧ (∀ (r0 : Nat) (q0 : Nat) (q1 : Nat) (M : ao_M) (ρ : ao_H) (y : ao_S), fX10_init n 32 r0 q0 q1 M ρ = some y → ao_le ρ y.2) ∧ (∀ (r0 : Nat) (M : ao_M) (ρ : ao_H) (y : ao_S), fX10_init n 35 r0 0 0 M ρ = some y → ao_le ρ y.2) ∧ (∀ (r0 : Nat) (q0 : Nat) (q1 : Nat) (M : ao_M) (ρ : ao_H) (y : ao_S), fX10_init n 39 r0 q0 q1 M ρ = some y → ao_le ρ y.2) ∧ (∀ (r0 : Nat) (q0 : Nat) (q1 : Nat) (M : ao_M) (ρ : ao_H) (y : ao_S), fX10_init n 43 r0 q0 q1 M ρ = some y → ao_le ρ y.2) ∧ (∀ (r0 : Nat) (M : ao_M) (ρ : ao_H) (y : ao_S), fX10_init n 46 r0 0 0 M ρ = some y → ao_le ρ y.2) := by
  intro n
  induction n with
  | zero => exact ⟨fun _ _ _ _ h => ao_no h, fun _ _ _ _ _ _ h => ao_no h, fun _ _ _ _ h => ao_no h, fun _ _ _ _ _ _ h => ao_no h, fun _ _ _ _ _ _ h => ao_no h, fun _ _ _ _ h => ao_no h, fun _ _ _ _ _ _ h => ao_no h, fun _ _ _ _ _ _ h => ao_no h, fun _ _ _ _ h => ao_no h, fun _ _ _ _ _ _ h => ao_no h, fun _ _ _ _ _ _ h => ao_no h, fun _ _ _ _ h => ao_no h⟩
  | succ n ih =>
    refine ⟨?_, ?_, ?_, ?_, ?_, ?_, ?_, ?_, ?_, ?_, ?_, ?_⟩
    · intro r0 M ρ y h
      replace h := ao_ifT h rfl
      obtain ⟨n1, hn1, h⟩ := ao_bind h
      obtain ⟨-, h⟩ := ao_some h
      exact ao_le_tr (ao_le_nw _ _ _ _ _) (ih.2.1 r0 n1 r0 (ao_zr M n1) (ao_nw ρ n1 1 (1000 : Int32).toNatClampNeg (1000 : Int32).toNatClampNeg) _ h)
    · intro r0 q0 q1 M ρ y h
      replace h := ao_ifF h (by decide)
      replace h := ao_ifT h rfl
      obtain ⟨-, h⟩ := ao_some h
      exact ao_le_tr (ao_le_r _ _ _ _) (ih.2.2.1 r0 M (ao_r ρ q1 0 (some q0)) _ h)
    · intro r0 M ρ y h
      replace h := ao_ifF h (by decide)
      replace h := ao_ifF h (by decide)
      replace h := ao_ifT h rfl
      obtain ⟨n4, hn4, h⟩ := ao_bind h
      exact ao_le_tr (ao_le_nw _ _ _ _ _) (ih.2.2.2.1 r0 n4 r0 (ao_zr M n4) (ao_nw ρ n4 14 0 3) _ h)
    · intro r0 q0 q1 M ρ y h
      replace h := ao_ifF h (by decide)
      replace h := ao_ifF h (by decide)
      replace h := ao_ifF h (by decide)
      replace h := ao_ifT h rfl
      obtain ⟨p5, hp5, h⟩ := ao_bind h
      exact ao_le_tr (me_X4_init n q0 M ρ hp5) (ih.2.2.2.2.1 r0 q0 q1 p5.1 p5.2 _ h)
    · intro r0 q0 q1 M ρ y h
      replace h := ao_ifF h (by decide)
      replace h := ao_ifF h (by decide)
      replace h := ao_ifF h (by decide)
      replace h := ao_ifF h (by decide)
      replace h := ao_ifT h rfl
      obtain ⟨-, h⟩ := ao_some h
      exact ao_le_tr (ao_le_r _ _ _ _) (ih.2.2.2.2.2.1 r0 M (ao_r ρ q1 1 (some q0)) _ h)
    · intro r0 M ρ y h
      replace h := ao_ifF h (by decide)
      replace h := ao_ifF h (by decide)
      replace h := ao_ifF h (by decide)
      replace h := ao_ifF h (by decide)
      replace h := ao_ifF h (by decide)
      replace h := ao_ifT h rfl
      obtain ⟨n7, hn7, h⟩ := ao_bind h
      exact ao_le_tr (ao_le_nw _ _ _ _ _) (ih.2.2.2.2.2.2.1 r0 n7 r0 (ao_zr M n7) (ao_nw ρ n7 12 0 7) _ h)
    · intro r0 q0 q1 M ρ y h
      replace h := ao_ifF h (by decide)
      replace h := ao_ifF h (by decide)
      replace h := ao_ifF h (by decide)
      replace h := ao_ifF h (by decide)
      replace h := ao_ifF h (by decide)
      replace h := ao_ifF h (by decide)
      replace h := ao_ifT h rfl
      obtain ⟨p8, hp8, h⟩ := ao_bind h
      exact ao_le_tr (me_X2_init n q0 M ρ hp8) (ih.2.2.2.2.2.2.2.1 r0 q0 q1 p8.1 p8.2 _ h)
    · intro r0 q0 q1 M ρ y h
      replace h := ao_ifF h (by decide)
      replace h := ao_ifF h (by decide)
      replace h := ao_ifF h (by decide)
      replace h := ao_ifF h (by decide)
      replace h := ao_ifF h (by decide)
      replace h := ao_ifF h (by decide)
      replace h := ao_ifF h (by decide)
      replace h := ao_ifT h rfl
      obtain ⟨-, h⟩ := ao_some h
      exact ao_le_tr (ao_le_r _ _ _ _) (ih.2.2.2.2.2.2.2.2.1 r0 M (ao_r ρ q1 2 (some q0)) _ h)
    · intro r0 M ρ y h
      replace h := ao_ifF h (by decide)
      replace h := ao_ifF h (by decide)
      replace h := ao_ifF h (by decide)
      replace h := ao_ifF h (by decide)
      replace h := ao_ifF h (by decide)
      replace h := ao_ifF h (by decide)
      replace h := ao_ifF h (by decide)
      replace h := ao_ifF h (by decide)
      replace h := ao_ifT h rfl
      obtain ⟨n10, hn10, h⟩ := ao_bind h
      exact ao_le_tr (ao_le_nw _ _ _ _ _) (ih.2.2.2.2.2.2.2.2.2.1 r0 n10 r0 (ao_zr M n10) (ao_nw ρ n10 10 0 5) _ h)
    · intro r0 q0 q1 M ρ y h
      replace h := ao_ifF h (by decide)
      replace h := ao_ifF h (by decide)
      replace h := ao_ifF h (by decide)
      replace h := ao_ifF h (by decide)
      replace h := ao_ifF h (by decide)
      replace h := ao_ifF h (by decide)
      replace h := ao_ifF h (by decide)
      replace h := ao_ifF h (by decide)
      replace h := ao_ifF h (by decide)
      replace h := ao_ifT h rfl
      obtain ⟨p11, hp11, h⟩ := ao_bind h
      exact ao_le_tr (me_X0_init n q0 M ρ hp11) (ih.2.2.2.2.2.2.2.2.2.2.1 r0 q0 q1 p11.1 p11.2 _ h)
    · intro r0 q0 q1 M ρ y h
      replace h := ao_ifF h (by decide)
      replace h := ao_ifF h (by decide)
      replace h := ao_ifF h (by decide)
      replace h := ao_ifF h (by decide)
      replace h := ao_ifF h (by decide)
      replace h := ao_ifF h (by decide)
      replace h := ao_ifF h (by decide)
      replace h := ao_ifF h (by decide)
      replace h := ao_ifF h (by decide)
      replace h := ao_ifF h (by decide)
      replace h := ao_ifT h rfl
      obtain ⟨-, h⟩ := ao_some h
      exact ao_le_tr (ao_le_r _ _ _ _) (ih.2.2.2.2.2.2.2.2.2.2.2 r0 M (ao_r ρ q1 3 (some q0)) _ h)
    · intro r0 M ρ y h
      replace h := ao_ifF h (by decide)
      replace h := ao_ifF h (by decide)
      replace h := ao_ifF h (by decide)
      replace h := ao_ifF h (by decide)
      replace h := ao_ifF h (by decide)
      replace h := ao_ifF h (by decide)
      replace h := ao_ifF h (by decide)
      replace h := ao_ifF h (by decide)
      replace h := ao_ifF h (by decide)
      replace h := ao_ifF h (by decide)
      replace h := ao_ifF h (by decide)
      replace h := ao_ifT h rfl
      obtain ⟨-, h⟩ := ao_some h
      replace h := ao_letD h rfl
      generalize (ao_u M r0 4 (0 : Int32)) = M14 at h
      replace h := ao_letD h rfl
      generalize (ao_u M14 r0 5 (-1 : Int32)) = M15 at h
      cases h
      exact ao_le_rf _
set_option maxRecDepth 100000 in
set_option maxHeartbeats 4000000 in
theorem wX10_init {Γ : ao_C} (d : Nat) (hd : 4 ≤ d) (MC MS : Nat) : ∀ n : Nat, (∀ (r0 : Nat) (M : ao_M) (ρ : ao_H) (y : ao_S), fX10_init n 0 r0 0 0 M ρ = some y → ao_W Γ uX10_init (ao_rm d MC MS) (ao_Q Γ (ao_QV y) MC MS) (ao_dc ρ y.2) (ao_ds ρ y.2) 0 [some (.ref (Γ.2.2.2 + r0))] [] (M, ρ)) ∧ (∀ (r0 : Nat) (q0 : Nat) (q1 : Nat) (M : ao_M) (ρ : ao_H) (y : ao_S), fX10_init n 10 r0 q0 q1 M ρ = some y → ao_W Γ uX10_init (ao_rm d MC MS) (ao_Q Γ (ao_QV y) MC MS) (ao_dc ρ y.2) (ao_ds ρ y.2) 10 [some (.ref (Γ.2.2.2 + r0))] [.ref (Γ.2.2.2 + q0), .ref (Γ.2.2.2 + q1)] (M, ρ)) ∧ (∀ (r0 : Nat) (M : ao_M) (ρ : ao_H) (y : ao_S), fX10_init n 13 r0 0 0 M ρ = some y → ao_W Γ uX10_init (ao_rm d MC MS) (ao_Q Γ (ao_QV y) MC MS) (ao_dc ρ y.2) (ao_ds ρ y.2) 13 [some (.ref (Γ.2.2.2 + r0))] [] (M, ρ)) ∧ (∀ (r0 : Nat) (q0 : Nat) (q1 : Nat) (M : ao_M) (ρ : ao_H) (y : ao_S), fX10_init n 17 r0 q0 q1 M ρ = some y → ao_W Γ uX10_init (ao_rm d MC MS) (ao_Q Γ (ao_QV y) MC MS) (ao_dc ρ y.2) (ao_ds ρ y.2) 17 [some (.ref (Γ.2.2.2 + r0))] [.ref (Γ.2.2.2 + q0), .ref (Γ.2.2.2 + q1)] (M, ρ)) ∧ (∀ (r0 : Nat) (q0 : Nat) (q1 : Nat) (M : ao_M) (ρ : ao_H) (y : ao_S), fX10_init n 21 r0 q0 q1 M ρ = some y → ao_W Γ uX10_init (ao_rm d MC MS) (ao_Q Γ (ao_QV y) MC MS) (ao_dc ρ y.2) (ao_ds ρ y.2) 21 [some (.ref (Γ.2.2.2 + r0))] [.ref (Γ.2.2.2 + q0), .ref (Γ.2.2.2 + q1)] (M, ρ)) ∧ (∀ (r0 : Nat) (M : ao_M) (ρ : ao_H) (y : ao_S), fX10_init n 24 r0 0 0 M ρ = some y → ao_W Γ uX10_init (ao_rm d MC MS) (ao_Q Γ (ao_QV y) MC MS) (ao_dc ρ y.2) (ao_ds ρ y.2) 24 [some (.ref (Γ.2.2.2 + r0))] [] (M, ρ)) ∧ (∀ (r0 : Nat) (q0 : Nat) (q1 : Nat) (M : ao_M) (ρ : ao_H) (y : ao_S), fX10_init n 28 r0 q0 q1 M ρ = some y → ao_W Γ uX10_init (ao_rm d MC MS) (ao_Q Γ (ao_QV y) MC MS) (ao_dc ρ y.2) (ao_ds ρ y.2) 28 [some (.ref (Γ.2.2.2 + r0))] [.ref (Γ.2.2.2 + q0), .ref (Γ.2.2.2 + q1)] (M, ρ)) ∧ (∀ (r0 : Nat) (q0 : Nat) (q1 : Nat) (M : ao_M) (ρ : ao_H) (y : ao_S), fX10_init n 32 r0 q0 q1 M ρ = some y → ao_W Γ uX10_init (ao_rm d MC MS) (ao_Q Γ (ao_QV y) MC MS) (ao_dc ρ y.2) (ao_ds ρ y.2) 32 [some (.ref (Γ.2.2.2 + r0))] [.ref (Γ.2.2.2 + q0), .ref (Γ.2.2.2 + q1)] (M, ρ)) ∧ (∀ (r0 : Nat) (M : ao_M) (ρ : ao_H) (y : ao_S), fX10_init n 35 r0 0 0 M ρ = some y → ao_W Γ uX10_init (ao_rm d MC MS) (ao_Q Γ (ao_QV y) MC MS) (ao_dc ρ y.2) (ao_ds ρ y.2) 35 [some (.ref (Γ.2.2.2 + r0))] [] (M, ρ)) ∧ (∀ (r0 : Nat) (q0 : Nat) (q1 : Nat) (M : ao_M) (ρ : ao_H) (y : ao_S), fX10_init n 39 r0 q0 q1 M ρ = some y → ao_W Γ uX10_init (ao_rm d MC MS) (ao_Q Γ (ao_QV y) MC MS) (ao_dc ρ y.2) (ao_ds ρ y.2) 39 [some (.ref (Γ.2.2.2 + r0))] [.ref (Γ.2.2.2 + q0), .ref (Γ.2.2.2 + q1)] (M, ρ)) ∧ (∀ (r0 : Nat) (q0 : Nat) (q1 : Nat) (M : ao_M) (ρ : ao_H) (y : ao_S), fX10_init n 43 r0 q0 q1 M ρ = some y → ao_W Γ uX10_init (ao_rm d MC MS) (ao_Q Γ (ao_QV y) MC MS) (ao_dc ρ y.2) (ao_ds ρ y.2) 43 [some (.ref (Γ.2.2.2 + r0))] [.ref (Γ.2.2.2 + q0), .ref (Γ.2.2.2 + q1)] (M, ρ)) ∧ (∀ (r0 : Nat) (M : ao_M) (ρ : ao_H) (y : ao_S), fX10_init n 46 r0 0 0 M ρ = some y → ao_W Γ uX10_init (ao_rm d MC MS) (ao_Q Γ (ao_QV y) MC MS) (ao_dc ρ y.2) (ao_ds ρ y.2) 46 [some (.ref (Γ.2.2.2 + r0))] [] (M, ρ)) := by
  intro n
  induction n with
  | zero => exact ⟨fun _ _ _ _ h => ao_no h, fun _ _ _ _ _ _ h => ao_no h, fun _ _ _ _ h => ao_no h, fun _ _ _ _ _ _ h => ao_no h, fun _ _ _ _ _ _ h => ao_no h, fun _ _ _ _ h => ao_no h, fun _ _ _ _ _ _ h => ao_no h, fun _ _ _ _ _ _ h => ao_no h, fun _ _ _ _ h => ao_no h, fun _ _ _ _ _ _ h => ao_no h, fun _ _ _ _ _ _ h => ao_no h, fun _ _ _ _ h => ao_no h⟩
  | succ n ih =>
    refine ⟨?_, ?_, ?_, ?_, ?_, ?_, ?_, ?_, ?_, ?_, ?_, ?_⟩
    · intro r0 M ρ y h
      replace h := ao_ifT h rfl
      refine ao_aload_n 0 dX10_init_0 rfl rfl ?_
      refine bi_obj dX10_init_1 loi_X10_1 (Nat.le_of_ble_eq_true rfl) (ao_cpR (by omega)) ?_
      refine ao_aload_n 0 dX10_init_4 rfl rfl ?_
      refine ao_sipush (v := 1000) dX10_init_5 (by decide) ?_
      obtain ⟨n1, hn1, h⟩ := ao_bind h
      obtain ⟨hb2, h⟩ := ao_some h
      refine ba_newa n1 1 dX10_init_8 rfl (by decide) hn1 lna_1 hb2.1 hb2.2 (ao_dc_nw ((mX10_init n).2.1 r0 n1 r0 (ao_zr M n1) (ao_nw ρ n1 1 (1000 : Int32).toNatClampNeg (1000 : Int32).toNatClampNeg) _ h)) ?_
      exact ih.2.1 r0 n1 r0 (ao_zr M n1) (ao_nw ρ n1 1 (1000 : Int32).toNatClampNeg (1000 : Int32).toNatClampNeg) _ h
    · intro r0 q0 q1 M ρ y h
      replace h := ao_ifF h (by decide)
      replace h := ao_ifT h rfl
      obtain ⟨hk3, h⟩ := ao_some h
      refine ba_putR q1 10 0 (q := (RX10, TX10, 6)) dX10_init_10 rfl hk3 (Nat.le_of_ble_eq_true rfl) lf_X10_9 (Or.inr ⟨rfl, rfl⟩) rfl rfl rfl ?_
      exact ih.2.2.1 r0 M (ao_r ρ q1 0 (some q0)) _ h
    · intro r0 M ρ y h
      replace h := ao_ifF h (by decide)
      replace h := ao_ifF h (by decide)
      replace h := ao_ifT h rfl
      refine ao_aload_n 0 dX10_init_13 rfl rfl ?_
      obtain ⟨n4, hn4, h⟩ := ao_bind h
      refine ba_new n4 4 (q := (RX4, TX4, 3)) dX10_init_14 rfl hn4 lnw_X10_13 (ao_dc_nw ((mX10_init n).2.2.2.1 r0 n4 r0 (ao_zr M n4) (ao_nw ρ n4 14 0 3) _ h)) ?_
      exact ih.2.2.2.1 r0 n4 r0 (ao_zr M n4) (ao_nw ρ n4 14 0 3) _ h
    · intro r0 q0 q1 M ρ y h
      replace h := ao_ifF h (by decide)
      replace h := ao_ifF h (by decide)
      replace h := ao_ifF h (by decide)
      replace h := ao_ifT h rfl
      refine ao_dup dX10_init_17 rfl ?_
      obtain ⟨p5, hp5, h⟩ := ao_bind h
      refine bi_callI q0 [] (aX4_init (d - 1) (by omega) n q0 M ρ hp5) dX10_init_18 lc_X10_15 li_X4_init rfl rfl rfl (Nat.le_of_ble_eq_true rfl) (ao_hR (by omega) (by decide)) (ao_leC (me_X4_init n q0 M ρ hp5) ((mX10_init n).2.2.2.2.1 r0 q0 q1 p5.1 p5.2 _ h)) (ao_leS (me_X4_init n q0 M ρ hp5) ((mX10_init n).2.2.2.2.1 r0 q0 q1 p5.1 p5.2 _ h)) ?_
      exact ih.2.2.2.2.1 r0 q0 q1 p5.1 p5.2 _ h
    · intro r0 q0 q1 M ρ y h
      replace h := ao_ifF h (by decide)
      replace h := ao_ifF h (by decide)
      replace h := ao_ifF h (by decide)
      replace h := ao_ifF h (by decide)
      replace h := ao_ifT h rfl
      obtain ⟨hk6, h⟩ := ao_some h
      refine ba_putR q1 10 1 (q := (RX10, TX10, 6)) dX10_init_21 rfl hk6 (Nat.le_of_ble_eq_true rfl) lf_X10_16 (Or.inr ⟨rfl, rfl⟩) rfl rfl rfl ?_
      exact ih.2.2.2.2.2.1 r0 M (ao_r ρ q1 1 (some q0)) _ h
    · intro r0 M ρ y h
      replace h := ao_ifF h (by decide)
      replace h := ao_ifF h (by decide)
      replace h := ao_ifF h (by decide)
      replace h := ao_ifF h (by decide)
      replace h := ao_ifF h (by decide)
      replace h := ao_ifT h rfl
      refine ao_aload_n 0 dX10_init_24 rfl rfl ?_
      obtain ⟨n7, hn7, h⟩ := ao_bind h
      refine ba_new n7 2 (q := (RX2, TX2, 7)) dX10_init_25 rfl hn7 lnw_X10_20 (ao_dc_nw ((mX10_init n).2.2.2.2.2.2.1 r0 n7 r0 (ao_zr M n7) (ao_nw ρ n7 12 0 7) _ h)) ?_
      exact ih.2.2.2.2.2.2.1 r0 n7 r0 (ao_zr M n7) (ao_nw ρ n7 12 0 7) _ h
    · intro r0 q0 q1 M ρ y h
      replace h := ao_ifF h (by decide)
      replace h := ao_ifF h (by decide)
      replace h := ao_ifF h (by decide)
      replace h := ao_ifF h (by decide)
      replace h := ao_ifF h (by decide)
      replace h := ao_ifF h (by decide)
      replace h := ao_ifT h rfl
      refine ao_dup dX10_init_28 rfl ?_
      obtain ⟨p8, hp8, h⟩ := ao_bind h
      refine bi_callI q0 [] (aX2_init (d - 1) (by omega) n q0 M ρ hp8) dX10_init_29 lc_X10_22 li_X2_init rfl rfl rfl (Nat.le_of_ble_eq_true rfl) (ao_hR (by omega) (by decide)) (ao_leC (me_X2_init n q0 M ρ hp8) ((mX10_init n).2.2.2.2.2.2.2.1 r0 q0 q1 p8.1 p8.2 _ h)) (ao_leS (me_X2_init n q0 M ρ hp8) ((mX10_init n).2.2.2.2.2.2.2.1 r0 q0 q1 p8.1 p8.2 _ h)) ?_
      exact ih.2.2.2.2.2.2.2.1 r0 q0 q1 p8.1 p8.2 _ h
    · intro r0 q0 q1 M ρ y h
      replace h := ao_ifF h (by decide)
      replace h := ao_ifF h (by decide)
      replace h := ao_ifF h (by decide)
      replace h := ao_ifF h (by decide)
      replace h := ao_ifF h (by decide)
      replace h := ao_ifF h (by decide)
      replace h := ao_ifF h (by decide)
      replace h := ao_ifT h rfl
      obtain ⟨hk9, h⟩ := ao_some h
      refine ba_putR q1 10 2 (q := (RX10, TX10, 6)) dX10_init_32 rfl hk9 (Nat.le_of_ble_eq_true rfl) lf_X10_23 (Or.inr ⟨rfl, rfl⟩) rfl rfl rfl ?_
      exact ih.2.2.2.2.2.2.2.2.1 r0 M (ao_r ρ q1 2 (some q0)) _ h
    · intro r0 M ρ y h
      replace h := ao_ifF h (by decide)
      replace h := ao_ifF h (by decide)
      replace h := ao_ifF h (by decide)
      replace h := ao_ifF h (by decide)
      replace h := ao_ifF h (by decide)
      replace h := ao_ifF h (by decide)
      replace h := ao_ifF h (by decide)
      replace h := ao_ifF h (by decide)
      replace h := ao_ifT h rfl
      refine ao_aload_n 0 dX10_init_35 rfl rfl ?_
      obtain ⟨n10, hn10, h⟩ := ao_bind h
      refine ba_new n10 0 (q := (RX0, TX0, 5)) dX10_init_36 rfl hn10 lnw_X10_27 (ao_dc_nw ((mX10_init n).2.2.2.2.2.2.2.2.2.1 r0 n10 r0 (ao_zr M n10) (ao_nw ρ n10 10 0 5) _ h)) ?_
      exact ih.2.2.2.2.2.2.2.2.2.1 r0 n10 r0 (ao_zr M n10) (ao_nw ρ n10 10 0 5) _ h
    · intro r0 q0 q1 M ρ y h
      replace h := ao_ifF h (by decide)
      replace h := ao_ifF h (by decide)
      replace h := ao_ifF h (by decide)
      replace h := ao_ifF h (by decide)
      replace h := ao_ifF h (by decide)
      replace h := ao_ifF h (by decide)
      replace h := ao_ifF h (by decide)
      replace h := ao_ifF h (by decide)
      replace h := ao_ifF h (by decide)
      replace h := ao_ifT h rfl
      refine ao_dup dX10_init_39 rfl ?_
      obtain ⟨p11, hp11, h⟩ := ao_bind h
      refine bi_callI q0 [] (aX0_init (d - 1) (by omega) n q0 M ρ hp11) dX10_init_40 lc_X10_29 li_X0_init rfl rfl rfl (Nat.le_of_ble_eq_true rfl) (ao_hR (by omega) (by decide)) (ao_leC (me_X0_init n q0 M ρ hp11) ((mX10_init n).2.2.2.2.2.2.2.2.2.2.1 r0 q0 q1 p11.1 p11.2 _ h)) (ao_leS (me_X0_init n q0 M ρ hp11) ((mX10_init n).2.2.2.2.2.2.2.2.2.2.1 r0 q0 q1 p11.1 p11.2 _ h)) ?_
      exact ih.2.2.2.2.2.2.2.2.2.2.1 r0 q0 q1 p11.1 p11.2 _ h
    · intro r0 q0 q1 M ρ y h
      replace h := ao_ifF h (by decide)
      replace h := ao_ifF h (by decide)
      replace h := ao_ifF h (by decide)
      replace h := ao_ifF h (by decide)
      replace h := ao_ifF h (by decide)
      replace h := ao_ifF h (by decide)
      replace h := ao_ifF h (by decide)
      replace h := ao_ifF h (by decide)
      replace h := ao_ifF h (by decide)
      replace h := ao_ifF h (by decide)
      replace h := ao_ifT h rfl
      obtain ⟨hk12, h⟩ := ao_some h
      refine ba_putR q1 10 3 (q := (RX10, TX10, 6)) dX10_init_43 rfl hk12 (Nat.le_of_ble_eq_true rfl) lf_X10_30 (Or.inr ⟨rfl, rfl⟩) rfl rfl rfl ?_
      exact ih.2.2.2.2.2.2.2.2.2.2.2 r0 M (ao_r ρ q1 3 (some q0)) _ h
    · intro r0 M ρ y h
      replace h := ao_ifF h (by decide)
      replace h := ao_ifF h (by decide)
      replace h := ao_ifF h (by decide)
      replace h := ao_ifF h (by decide)
      replace h := ao_ifF h (by decide)
      replace h := ao_ifF h (by decide)
      replace h := ao_ifF h (by decide)
      replace h := ao_ifF h (by decide)
      replace h := ao_ifF h (by decide)
      replace h := ao_ifF h (by decide)
      replace h := ao_ifF h (by decide)
      replace h := ao_ifT h rfl
      refine ao_aload_n 0 dX10_init_46 rfl rfl ?_
      refine ao_iconst (v := 0) dX10_init_47 (by decide) ?_
      obtain ⟨hk13, h⟩ := ao_some h
      refine an_putI r0 10 4 (q := (RX10, TX10, 6)) dX10_init_48 rfl hk13 (Nat.le_of_ble_eq_true rfl) lf_X10_34 rfl rfl rfl rfl (fun M14 hM14 => ?_)
      replace h := ao_letD h hM14
      refine ao_aload_n 0 dX10_init_51 rfl rfl ?_
      refine ao_iconst (v := (-1)) dX10_init_52 (by decide) ?_
      refine an_putI r0 10 5 (q := (RX10, TX10, 6)) dX10_init_53 rfl hk13 (Nat.le_of_ble_eq_true rfl) lf_X10_38 rfl rfl rfl rfl (fun M15 hM15 => ?_)
      replace h := ao_letD h hM15
      cases h
      exact ao_return dX10_init_56 rfl ⟨rfl, rfl⟩
theorem me_X10_init (n : Nat) (r0 : Nat) (M : ao_M) (ρ : ao_H) {y : ao_S} (h : gX10_init n r0 M ρ = some y) : ao_le ρ y.2 := (mX10_init n).1 r0 M ρ y h
set_option maxRecDepth 100000 in
set_option maxHeartbeats 4000000 in
theorem aX10_init {Γ : ao_C} (d : Nat) (hd : 4 ≤ d) (n : Nat) (r0 : Nat) (M : ao_M) (ρ : ao_H) {y : ao_S} (h : gX10_init n r0 M ρ = some y) : ao_A Γ uX10_init d (ao_dc ρ y.2) (ao_ds ρ y.2) [.ref (Γ.2.2.2 + r0)] (M, ρ) (ao_QV y) := by
  refine ao_of (by decide) (ao_cat1 (Nat.le_of_ble_eq_true rfl)) (Nat.le_of_ble_eq_true rfl) ?_
  show ao_W Γ uX10_init (ao_rm d (ao_dc ρ y.2) (ao_ds ρ y.2)) (ao_Q Γ (ao_QV y) (ao_dc ρ y.2) (ao_ds ρ y.2)) (ao_dc ρ y.2) (ao_ds ρ y.2) 0 [some (.ref (Γ.2.2.2 + r0))] [] (M, ρ)
  exact (wX10_init d hd _ _ n).1 r0 M ρ y h

abbrev uX10_start : ao_Mi := (yX10_start, cX10_start, 2, none, [])
def fX10_start : Nat → Nat → Nat → Int32 →  ao_M → ao_H → Option ((Int32 ⊕ String) × ao_S)
  | 0, _, _, _, _, _ => none
  | n + 1, pc, r0, x1, M, ρ =>
    if pc = 0 then
      if x1 < 0 then
        fX10_start n 9 r0 x1 M ρ
      else
        if x1 ≤ (4 : Int32) then
          if ρ.2.1 r0 = 20 then
          (ρ.1 r0 2).bind fun j4 =>
          if ρ.2.1 j4 = 12 then
          (gX2_startAgain n j4 x1 M ρ).bind fun p6 =>
          (ρ.1 r0 3).bind fun j7 =>
          if ρ.2.1 j7 = 10 then
          (gX0_forget j7 p6 ρ).bind fun p9 =>
          ao_let (ao_u p9 r0 5 (-1 : Int32)) fun M10 =>
          some (.inl 0, M10, ρ)
          else none
          else none
          else none
        else
          fX10_start n 9 r0 x1 M ρ
    else if pc = 9 then
      some (.inr "java/lang/IllegalArgumentException", M, ao_th ρ)
    else none
def gX10_start (n : Nat) (r0 : Nat) (x1 : Int32) (M : ao_M) (ρ : ao_H) : Option ((Int32 ⊕ String) × ao_S) := fX10_start n 0 r0 x1 M ρ
set_option maxRecDepth 100000 in
set_option maxHeartbeats 4000000 in
theorem mX10_start : ∀ n : Nat, (∀ (r0 : Nat) (x1 : Int32) (M : ao_M) (ρ : ao_H) (y : (Int32 ⊕ String) × ao_S), fX10_start n 0 r0 x1 M ρ = some y → ao_le ρ y.2.2) ∧ (∀ (r0 : Nat) (x1 : Int32) (M : ao_M) (ρ : ao_H) (y : (Int32 ⊕ String) × ao_S), fX10_start n 9 r0 x1 M ρ = some y → ao_le ρ y.2.2) := by
  intro n
  induction n with
  | zero => exact ⟨fun _ _ _ _ _ h => ao_no h, fun _ _ _ _ _ h => ao_no h⟩
  | succ n ih =>
    refine ⟨?_, ?_⟩
    · intro r0 x1 M ρ y h
      replace h := ao_ifT h rfl
      rcases ao_ifC h with h | h
      · exact ih.2 r0 x1 M ρ _ h
      · rcases ao_ifC h with h | h
        · obtain ⟨-, h⟩ := ao_some h
          obtain ⟨j4, hj4, h⟩ := ao_bind h
          obtain ⟨-, h⟩ := ao_some h
          obtain ⟨p6, hp6, h⟩ := ao_bind h
          obtain ⟨j7, hj7, h⟩ := ao_bind h
          obtain ⟨-, h⟩ := ao_some h
          obtain ⟨p9, hp9, h⟩ := ao_bind h
          replace h := ao_letD h rfl
          generalize (ao_u p9 r0 5 (-1 : Int32)) = M10 at h
          cases h
          exact ao_le_rf _
        · exact ih.2 r0 x1 M ρ _ h
    · intro r0 x1 M ρ y h
      replace h := ao_ifF h (by decide)
      replace h := ao_ifT h rfl
      cases h
      exact ao_le_th _
set_option maxRecDepth 100000 in
set_option maxHeartbeats 4000000 in
theorem wX10_start {Γ : ao_C} (d : Nat) (hd : 8 ≤ d) (MC MS : Nat) : ∀ n : Nat, (∀ (r0 : Nat) (x1 : Int32) (M : ao_M) (ρ : ao_H) (y : (Int32 ⊕ String) × ao_S), fX10_start n 0 r0 x1 M ρ = some y → ao_W Γ uX10_start (ao_rm d MC MS) (ao_Q Γ (ao_ZV y) MC MS) (ao_dc ρ y.2.2) (ao_ds ρ y.2.2) 0 [some (.ref (Γ.2.2.2 + r0)), some (.int x1)] [] (M, ρ)) ∧ (∀ (r0 : Nat) (x1 : Int32) (M : ao_M) (ρ : ao_H) (y : (Int32 ⊕ String) × ao_S), fX10_start n 9 r0 x1 M ρ = some y → ao_W Γ uX10_start (ao_rm d MC MS) (ao_Q Γ (ao_ZV y) MC MS) (ao_dc ρ y.2.2) (ao_ds ρ y.2.2) 9 [some (.ref (Γ.2.2.2 + r0)), some (.int x1)] [] (M, ρ)) := by
  intro n
  induction n with
  | zero => exact ⟨fun _ _ _ _ _ h => ao_no h, fun _ _ _ _ _ h => ao_no h⟩
  | succ n ih =>
    refine ⟨?_, ?_⟩
    · intro r0 x1 M ρ y h
      replace h := ao_ifT h rfl
      refine ao_iload_n 1 dX10_start_0 rfl rfl ?_
      refine ao_if_lt 9 dX10_start_1 (by decide) (fun c1 => ?_) (fun c1 => ?_)
      · replace h := ao_ifT h c1
        exact ih.2 r0 x1 M ρ _ h
      · replace h := ao_ifF h c1
        refine ao_iload_n 1 dX10_start_4 rfl rfl ?_
        refine ao_iconst (v := 4) dX10_start_5 (by decide) ?_
        refine ao_icmp_le 19 dX10_start_6 (by decide) (fun c2 => ?_) (fun c2 => ?_)
        · replace h := ao_ifT h c2
          refine ao_aload_n 0 dX10_start_19 rfl rfl ?_
          obtain ⟨hk3, h⟩ := ao_some h
          obtain ⟨j4, hj4, h⟩ := ao_bind h
          refine an_getR r0 10 2 (q := (RX10, TX10, 6)) dX10_start_20 rfl hk3 (Nat.le_of_ble_eq_true rfl) rfl lf_X10_23 hj4 ?_
          refine ao_iload_n 1 dX10_start_23 rfl rfl ?_
          obtain ⟨hk5, h⟩ := ao_some h
          obtain ⟨p6, hp6, h⟩ := ao_bind h
          refine an_callVv j4 2 (q := (RX2, TX2, 7)) [.int x1] (aX2_startAgain (d - 1) (by omega) _ j4 x1 M ρ hp6) dX10_start_24 lc_X10_59 li_X2_startAgain ls_X2_startAgain rfl hk5 rfl rfl (Nat.le_of_ble_eq_true rfl) (ao_hR (by omega) (by decide)) ?_
          refine ao_aload_n 0 dX10_start_27 rfl rfl ?_
          obtain ⟨j7, hj7, h⟩ := ao_bind h
          refine an_getR r0 10 3 (q := (RX10, TX10, 6)) dX10_start_28 rfl hk3 (Nat.le_of_ble_eq_true rfl) rfl lf_X10_30 hj7 ?_
          obtain ⟨hk8, h⟩ := ao_some h
          obtain ⟨p9, hp9, h⟩ := ao_bind h
          refine an_callVv j7 0 (q := (RX0, TX0, 5)) [] (aX0_forget (d - 1) (by omega) j7 p6 ρ hp9) dX10_start_31 lc_X10_62 li_X0_forget ls_X0_forget rfl hk8 rfl rfl (Nat.le_of_ble_eq_true rfl) (ao_hR (by omega) (by decide)) ?_
          refine ao_aload_n 0 dX10_start_34 rfl rfl ?_
          refine ao_iconst (v := (-1)) dX10_start_35 (by decide) ?_
          refine an_putI r0 10 5 (q := (RX10, TX10, 6)) dX10_start_36 rfl hk3 (Nat.le_of_ble_eq_true rfl) lf_X10_38 rfl rfl rfl rfl (fun M10 hM10 => ?_)
          replace h := ao_letD h hM10
          cases h
          exact ao_return dX10_start_39 rfl ⟨rfl, rfl⟩
        · replace h := ao_ifF h c2
          exact ih.2 r0 x1 M ρ _ h
    · intro r0 x1 M ρ y h
      replace h := ao_ifF h (by decide)
      replace h := ao_ifT h rfl
      cases h
      exact cx_throwS "java/lang/IllegalArgumentException" "not a way" ["java/lang/RuntimeException", "java/lang/Exception"] lth_X10_57 rfl dX10_start_9 dX10_start_12 dX10_start_13 dX10_start_15 dX10_start_18 (by omega) (Nat.le_of_ble_eq_true rfl) ao_thM ⟨rfl, rfl⟩
theorem me_X10_start (n : Nat) (r0 : Nat) (x1 : Int32) (M : ao_M) (ρ : ao_H) {y : (Int32 ⊕ String) × ao_S} (h : gX10_start n r0 x1 M ρ = some y) : ao_le ρ y.2.2 := (mX10_start n).1 r0 x1 M ρ y h
set_option maxRecDepth 100000 in
set_option maxHeartbeats 4000000 in
theorem aX10_start {Γ : ao_C} (d : Nat) (hd : 8 ≤ d) (n : Nat) (r0 : Nat) (x1 : Int32) (M : ao_M) (ρ : ao_H) {y : (Int32 ⊕ String) × ao_S} (h : gX10_start n r0 x1 M ρ = some y) : ao_A Γ uX10_start d (ao_dc ρ y.2.2) (ao_ds ρ y.2.2) [.ref (Γ.2.2.2 + r0), .int x1] (M, ρ) (ao_ZV y) := by
  refine ao_of (by decide) (ao_cat1 (Nat.le_of_ble_eq_true rfl)) (Nat.le_of_ble_eq_true rfl) ?_
  show ao_W Γ uX10_start (ao_rm d (ao_dc ρ y.2.2) (ao_ds ρ y.2.2)) (ao_Q Γ (ao_ZV y) (ao_dc ρ y.2.2) (ao_ds ρ y.2.2)) (ao_dc ρ y.2.2) (ao_ds ρ y.2.2) 0 [some (.ref (Γ.2.2.2 + r0)), some (.int x1)] [] (M, ρ)
  exact (wX10_start d hd _ _ n).1 r0 x1 M ρ y h

abbrev uX10_judge : ao_Mi := (yX10_judge, cX10_judge, 1, (some .int), [])
def gX10_judge (n : Nat) (r0 : Nat) (M : ao_M) (ρ : ao_H) : Option (Int32 × ao_M) :=
  if ρ.2.1 r0 = 20 then
  (ρ.1 r0 3).bind fun j2 =>
  (ρ.1 r0 2).bind fun j3 =>
  if ρ.2.1 j3 = 12 then
  (ρ.1 j3 3).bind fun j5 =>
  (ρ.1 j3 0).bind fun j6 =>
  if ρ.2.1 j2 = 10 then
  (gX0_decide n j2 j5 j6 M ρ).bind fun p8 =>
  some (p8.1, p8.2)
  else none
  else none
  else none
set_option maxRecDepth 100000 in
set_option maxHeartbeats 4000000 in
theorem aX10_judge {Γ : ao_C} (d : Nat) (hd : 67 ≤ d) (n : Nat) (r0 : Nat) (M : ao_M) (ρ : ao_H) {y : Int32 × ao_M} (h : gX10_judge n r0 M ρ = some y) : ao_A Γ uX10_judge d 0 0 [.ref (Γ.2.2.2 + r0)] (M, ρ) (ao_PI ρ y) := by
  refine ao_of (by decide) (ao_cat1 (Nat.le_of_ble_eq_true rfl)) (Nat.le_of_ble_eq_true rfl) ?_
  show ao_W Γ uX10_judge (ao_rm d 0 0) (ao_Q Γ (ao_PI ρ y) 0 0) 0 0 0 [some (.ref (Γ.2.2.2 + r0))] [] (M, ρ)
  unfold gX10_judge at h
  refine ao_aload_n 0 dX10_judge_0 rfl rfl ?_
  obtain ⟨hk1, h⟩ := ao_some h
  obtain ⟨j2, hj2, h⟩ := ao_bind h
  refine an_getR r0 10 3 (q := (RX10, TX10, 6)) dX10_judge_1 rfl hk1 (Nat.le_of_ble_eq_true rfl) rfl lf_X10_30 hj2 ?_
  refine ao_aload_n 0 dX10_judge_4 rfl rfl ?_
  obtain ⟨j3, hj3, h⟩ := ao_bind h
  refine an_getR r0 10 2 (q := (RX10, TX10, 6)) dX10_judge_5 rfl hk1 (Nat.le_of_ble_eq_true rfl) rfl lf_X10_23 hj3 ?_
  obtain ⟨hk4, h⟩ := ao_some h
  obtain ⟨j5, hj5, h⟩ := ao_bind h
  refine an_getR j3 2 3 (q := (RX2, TX2, 7)) dX10_judge_8 rfl hk4 (Nat.le_of_ble_eq_true rfl) rfl lf_X10_186 hj5 ?_
  refine ao_aload_n 0 dX10_judge_11 rfl rfl ?_
  refine an_getR r0 10 2 (q := (RX10, TX10, 6)) dX10_judge_12 rfl hk1 (Nat.le_of_ble_eq_true rfl) rfl lf_X10_23 hj3 ?_
  obtain ⟨j6, hj6, h⟩ := ao_bind h
  refine an_getR j3 2 0 (q := (RX2, TX2, 7)) dX10_judge_15 rfl hk4 (Nat.le_of_ble_eq_true rfl) rfl lf_X10_110 hj6 ?_
  obtain ⟨hk7, h⟩ := ao_some h
  obtain ⟨p8, hp8, h⟩ := ao_bind h
  refine an_callVi j2 0 (q := (RX0, TX0, 5)) [.ref (Γ.2.2.2 + j5), .ref (Γ.2.2.2 + j6)] (aX0_decide (d - 1) (by omega) _ j2 j5 j6 M ρ hp8) dX10_judge_18 lc_X10_190 li_X0_decide ls_X0_decide rfl hk7 rfl rfl (Nat.le_of_ble_eq_true rfl) (ao_hR (by omega) (by decide)) ?_
  cases h
  exact ao_ireturn dX10_judge_21 rfl rfl ⟨rfl, rfl⟩

abbrev uX12_readProgram : ao_Mi := (yX12_readProgram, cX12_readProgram, 2, none, [])
def fX12_readProgram : Nat → Nat → Nat →  ao_M → ao_H → Option ((Int32 ⊕ String) × ao_S)
  | 0, _, _, _, _ => none
  | n + 1, pc, r0, M, ρ =>
    if pc = 0 then
      if ρ.2.1 r0 = 22 then
      ao_let (ao_u M r0 8 (0 : Int32)) fun M2 =>
      ao_let (ao_u M2 r0 13 (0 : Int32)) fun M3 =>
      ao_let (ao_u M3 r0 14 (0 : Int32)) fun M4 =>
      ao_let (ao_u M4 r0 15 (0 : Int32)) fun M5 =>
      ao_let (ao_u M5 r0 16 (0 : Int32)) fun M6 =>
      (gX12_token n r0 M6 ρ).bind fun p7 =>
      fX12_readProgram n 29 r0 p7 ρ
      else none
    else if pc = 29 then
      if ρ.2.1 r0 = 22 then
      if (M r0 9) = 0 then
        (gX12_make r0 (22 : Int32) (0 : Int32) (0 : Int32) M ρ).bind fun p10 =>
        ao_let p10.1 fun v11 =>
        some (.inl 0, p10.2, ρ)
      else
        (gX12_statement n r0 M ρ).bind fun p12 =>
        ao_cs p12.1 (fun _ => fX12_readProgram n 40 r0 p12.2.1 p12.2.2) (fun E => some (.inr E, p12.2.1, p12.2.2))
      else none
    else if pc = 40 then
      fX12_readProgram n 29 r0 M ρ
    else none
def gX12_readProgram (n : Nat) (r0 : Nat) (M : ao_M) (ρ : ao_H) : Option ((Int32 ⊕ String) × ao_S) := fX12_readProgram n 0 r0 M ρ
set_option maxRecDepth 100000 in
set_option maxHeartbeats 4000000 in
theorem mX12_readProgram : ∀ n : Nat, (∀ (r0 : Nat) (M : ao_M) (ρ : ao_H) (y : (Int32 ⊕ String) × ao_S), fX12_readProgram n 0 r0 M ρ = some y → ao_le ρ y.2.2) ∧ (∀ (r0 : Nat) (M : ao_M) (ρ : ao_H) (y : (Int32 ⊕ String) × ao_S), fX12_readProgram n 29 r0 M ρ = some y → ao_le ρ y.2.2) ∧ (∀ (r0 : Nat) (M : ao_M) (ρ : ao_H) (y : (Int32 ⊕ String) × ao_S), fX12_readProgram n 40 r0 M ρ = some y → ao_le ρ y.2.2) := by
  intro n
  induction n with
  | zero => exact ⟨fun _ _ _ _ h => ao_no h, fun _ _ _ _ h => ao_no h, fun _ _ _ _ h => ao_no h⟩
  | succ n ih =>
    refine ⟨?_, ?_, ?_⟩
    · intro r0 M ρ y h
      replace h := ao_ifT h rfl
      obtain ⟨-, h⟩ := ao_some h
      replace h := ao_letD h rfl
      generalize (ao_u M r0 8 (0 : Int32)) = M2 at h
      replace h := ao_letD h rfl
      generalize (ao_u M2 r0 13 (0 : Int32)) = M3 at h
      replace h := ao_letD h rfl
      generalize (ao_u M3 r0 14 (0 : Int32)) = M4 at h
      replace h := ao_letD h rfl
      generalize (ao_u M4 r0 15 (0 : Int32)) = M5 at h
      replace h := ao_letD h rfl
      generalize (ao_u M5 r0 16 (0 : Int32)) = M6 at h
      obtain ⟨p7, hp7, h⟩ := ao_bind h
      exact ih.2.1 r0 p7 ρ _ h
    · intro r0 M ρ y h
      replace h := ao_ifF h (by decide)
      replace h := ao_ifT h rfl
      obtain ⟨-, h⟩ := ao_some h
      rcases ao_ifC h with h | h
      · obtain ⟨p10, hp10, h⟩ := ao_bind h
        replace h := ao_letD h rfl
        generalize p10.1 = v11 at h
        cases h
        exact ao_le_rf _
      · obtain ⟨p12, hp12, h⟩ := ao_bind h
        exact ao_le_tr (me_X12_statement n r0 M ρ hp12) (ao_csM h (fun _ h => ih.2.2 r0 p12.2.1 p12.2.2 _ h) (fun _ h => by cases h; exact ao_le_rf _))
    · intro r0 M ρ y h
      replace h := ao_ifF h (by decide)
      replace h := ao_ifF h (by decide)
      replace h := ao_ifT h rfl
      exact ih.2.1 r0 M ρ _ h
set_option maxRecDepth 100000 in
set_option maxHeartbeats 4000000 in
theorem wX12_readProgram {Γ : ao_C} (d : Nat) (hd : 139 ≤ d) (MC MS : Nat) : ∀ n : Nat, (∀ (r0 : Nat) (M : ao_M) (ρ : ao_H) (y : (Int32 ⊕ String) × ao_S), fX12_readProgram n 0 r0 M ρ = some y → ao_W Γ uX12_readProgram (ao_rm d MC MS) (ao_Q Γ (ao_ZV y) MC MS) (ao_dc ρ y.2.2) (ao_ds ρ y.2.2) 0 [some (.ref (Γ.2.2.2 + r0)), none] [] (M, ρ)) ∧ (∀ (r0 : Nat) (M : ao_M) (ρ : ao_H) (y : (Int32 ⊕ String) × ao_S), fX12_readProgram n 29 r0 M ρ = some y → ao_W Γ uX12_readProgram (ao_rm d MC MS) (ao_Q Γ (ao_ZV y) MC MS) (ao_dc ρ y.2.2) (ao_ds ρ y.2.2) 29 [some (.ref (Γ.2.2.2 + r0)), none] [] (M, ρ)) ∧ (∀ (r0 : Nat) (M : ao_M) (ρ : ao_H) (y : (Int32 ⊕ String) × ao_S), fX12_readProgram n 40 r0 M ρ = some y → ao_W Γ uX12_readProgram (ao_rm d MC MS) (ao_Q Γ (ao_ZV y) MC MS) (ao_dc ρ y.2.2) (ao_ds ρ y.2.2) 40 [some (.ref (Γ.2.2.2 + r0)), none] [] (M, ρ)) := by
  intro n
  induction n with
  | zero => exact ⟨fun _ _ _ _ h => ao_no h, fun _ _ _ _ h => ao_no h, fun _ _ _ _ h => ao_no h⟩
  | succ n ih =>
    refine ⟨?_, ?_, ?_⟩
    · intro r0 M ρ y h
      replace h := ao_ifT h rfl
      refine ao_aload_n 0 dX12_readProgram_0 rfl rfl ?_
      refine ao_iconst (v := 0) dX12_readProgram_1 (by decide) ?_
      obtain ⟨hk1, h⟩ := ao_some h
      refine an_putI r0 12 8 (q := (RX12, TX12, 83)) dX12_readProgram_2 rfl hk1 (Nat.le_of_ble_eq_true rfl) lf_X12_32 rfl rfl rfl rfl (fun M2 hM2 => ?_)
      replace h := ao_letD h hM2
      refine ao_aload_n 0 dX12_readProgram_5 rfl rfl ?_
      refine ao_iconst (v := 0) dX12_readProgram_6 (by decide) ?_
      refine an_putI r0 12 13 (q := (RX12, TX12, 83)) dX12_readProgram_7 rfl hk1 (Nat.le_of_ble_eq_true rfl) lf_X12_78 rfl rfl rfl rfl (fun M3 hM3 => ?_)
      replace h := ao_letD h hM3
      refine ao_aload_n 0 dX12_readProgram_10 rfl rfl ?_
      refine ao_iconst (v := 0) dX12_readProgram_11 (by decide) ?_
      refine an_putI r0 12 14 (q := (RX12, TX12, 83)) dX12_readProgram_12 rfl hk1 (Nat.le_of_ble_eq_true rfl) lf_X12_81 rfl rfl rfl rfl (fun M4 hM4 => ?_)
      replace h := ao_letD h hM4
      refine ao_aload_n 0 dX12_readProgram_15 rfl rfl ?_
      refine ao_iconst (v := 0) dX12_readProgram_16 (by decide) ?_
      refine an_putI r0 12 15 (q := (RX12, TX12, 83)) dX12_readProgram_17 rfl hk1 (Nat.le_of_ble_eq_true rfl) lf_X12_113 rfl rfl rfl rfl (fun M5 hM5 => ?_)
      replace h := ao_letD h hM5
      refine ao_aload_n 0 dX12_readProgram_20 rfl rfl ?_
      refine ao_iconst (v := 0) dX12_readProgram_21 (by decide) ?_
      refine an_putI r0 12 16 (q := (RX12, TX12, 83)) dX12_readProgram_22 rfl hk1 (Nat.le_of_ble_eq_true rfl) lf_X12_110 rfl rfl rfl rfl (fun M6 hM6 => ?_)
      replace h := ao_letD h hM6
      refine ao_aload_n 0 dX12_readProgram_25 rfl rfl ?_
      obtain ⟨p7, hp7, h⟩ := ao_bind h
      refine an_callVv r0 12 (q := (RX12, TX12, 83)) [] (aX12_token (d - 1) (by omega) _ r0 M6 ρ hp7) dX12_readProgram_26 lc_X12_63 li_X12_token ls_X12_token rfl hk1 rfl rfl (Nat.le_of_ble_eq_true rfl) (ao_hR (by omega) (by decide)) ?_
      exact ih.2.1 r0 p7 ρ _ h
    · intro r0 M ρ y h
      replace h := ao_ifF h (by decide)
      replace h := ao_ifT h rfl
      refine ao_aload_n 0 dX12_readProgram_29 rfl rfl ?_
      obtain ⟨hk8, h⟩ := ao_some h
      refine an_getI r0 12 9 (q := (RX12, TX12, 83)) dX12_readProgram_30 rfl hk8 (Nat.le_of_ble_eq_true rfl) rfl lf_X12_42 ?_
      refine ao_if_eq 43 dX12_readProgram_33 (by decide) (fun c9 => ?_) (fun c9 => ?_)
      · replace h := ao_ifT h c9
        refine ao_aload_n 0 dX12_readProgram_43 rfl rfl ?_
        refine ao_bipush (v := 22) dX12_readProgram_44 (by decide) ?_
        refine ao_iconst (v := 0) dX12_readProgram_46 (by decide) ?_
        refine ao_iconst (v := 0) dX12_readProgram_47 (by decide) ?_
        obtain ⟨p10, hp10, h⟩ := ao_bind h
        refine an_callVi r0 12 (q := (RX12, TX12, 83)) [.int (22 : Int32), .int (0 : Int32), .int (0 : Int32)] (aX12_make (d - 1) (by omega) r0 (22 : Int32) (0 : Int32) (0 : Int32) M ρ hp10) dX12_readProgram_48 lc_X12_87 li_X12_make ls_X12_make rfl hk8 rfl rfl (Nat.le_of_ble_eq_true rfl) (ao_hR (by omega) (by decide)) ?_
        refine an_topi (fun v11 hv11 => ?_)
        replace h := ao_letD h hv11
        refine ao_istore_n 1 (lo' := [some (.ref (Γ.2.2.2 + r0)), some (.int v11)]) dX12_readProgram_51 rfl (Nat.le_of_ble_eq_true rfl) rfl ?_
        cases h
        exact ao_return dX12_readProgram_52 rfl ⟨rfl, rfl⟩
      · replace h := ao_ifF h c9
        refine ao_aload_n 0 dX12_readProgram_36 rfl rfl ?_
        obtain ⟨p12, hp12, h⟩ := ao_bind h
        refine cx_callVv r0 12 (q := (RX12, TX12, 83)) [] (aX12_statement (d - 1) (by omega) n r0 M ρ hp12) dX12_readProgram_37 lc_X12_107 li_X12_statement ls_X12_statement rfl hk8 rfl rfl (Nat.le_of_ble_eq_true rfl) (ao_hR (by omega) (by decide)) (ao_leC (me_X12_statement n r0 M ρ hp12) (ao_csM h (fun _ h => (mX12_readProgram n).2.2 r0 p12.2.1 p12.2.2 _ h) (fun _ h => by cases h; exact ao_le_rf _))) (ao_leS (me_X12_statement n r0 M ρ hp12) (ao_csM h (fun _ h => (mX12_readProgram n).2.2 r0 p12.2.1 p12.2.2 _ h) (fun _ h => by cases h; exact ao_le_rf _))) (fun _ e13 => ?_) (fun _ e13 => ?_)
        · replace h := ao_csL h e13
          exact ih.2.2 r0 p12.2.1 p12.2.2 _ h
        · replace h := ao_csR h e13
          cases h
          exact cx_out rfl ⟨rfl, rfl⟩
    · intro r0 M ρ y h
      replace h := ao_ifF h (by decide)
      replace h := ao_ifF h (by decide)
      replace h := ao_ifT h rfl
      refine ao_goto 29 dX12_readProgram_40 (by decide) ?_
      exact ih.2.1 r0 M ρ _ h
theorem me_X12_readProgram (n : Nat) (r0 : Nat) (M : ao_M) (ρ : ao_H) {y : (Int32 ⊕ String) × ao_S} (h : gX12_readProgram n r0 M ρ = some y) : ao_le ρ y.2.2 := (mX12_readProgram n).1 r0 M ρ y h
set_option maxRecDepth 100000 in
set_option maxHeartbeats 4000000 in
theorem aX12_readProgram {Γ : ao_C} (d : Nat) (hd : 139 ≤ d) (n : Nat) (r0 : Nat) (M : ao_M) (ρ : ao_H) {y : (Int32 ⊕ String) × ao_S} (h : gX12_readProgram n r0 M ρ = some y) : ao_A Γ uX12_readProgram d (ao_dc ρ y.2.2) (ao_ds ρ y.2.2) [.ref (Γ.2.2.2 + r0)] (M, ρ) (ao_ZV y) := by
  refine ao_of (by decide) (ao_cat1 (Nat.le_of_ble_eq_true rfl)) (Nat.le_of_ble_eq_true rfl) ?_
  show ao_W Γ uX12_readProgram (ao_rm d (ao_dc ρ y.2.2) (ao_ds ρ y.2.2)) (ao_Q Γ (ao_ZV y) (ao_dc ρ y.2.2) (ao_ds ρ y.2.2)) (ao_dc ρ y.2.2) (ao_ds ρ y.2.2) 0 [some (.ref (Γ.2.2.2 + r0)), none] [] (M, ρ)
  exact (wX12_readProgram d hd _ _ n).1 r0 M ρ y h

abbrev uX12_begin : ao_Mi := (yX12_begin, cX12_begin, 3, none, [])
def fX12_begin : Nat → Nat → Nat → Int32 → Int32 →  ao_M → ao_H → Option (ao_M)
  | 0, _, _, _, _, _, _ => none
  | n + 1, pc, r0, x1, x2, M, ρ =>
    if pc = 0 then
      if ρ.2.1 r0 = 22 then
      ao_let (ao_u M r0 27 x1) fun M2 =>
      ao_let (ao_u M2 r0 26 (0 : Int32)) fun M3 =>
      ao_let (ao_u M3 r0 25 (0 : Int32)) fun M4 =>
      ao_let (ao_u M4 r0 68 (0 : Int32)) fun M5 =>
      ao_let (ao_u M5 r0 76 (0 : Int32)) fun M6 =>
      ao_let (ao_u M6 r0 65 (0 : Int32)) fun M7 =>
      ao_let (ao_u M7 r0 63 (0 : Int32)) fun M8 =>
      ao_let (ao_u M8 r0 82 (0 : Int32)) fun M9 =>
      ao_let (ao_u M9 r0 3 (-1 : Int32)) fun M10 =>
      fX12_begin n 47 r0 x1 (0 : Int32) M10 ρ
      else none
    else if pc = 47 then
      if (26 : Int32) ≤ x2 then
        fX12_begin n 96 r0 x1 (0 : Int32) M ρ
      else
        if ρ.2.1 r0 = 22 then
        (ρ.1 r0 17).bind fun j13 =>
        if ρ.2.1 j13 = 0 then
        if ¬ (x2 < 0 ∨ ρ.2.2.1 j13 ≤ x2.toNatClampNeg) then
        ao_let (ao_u M j13 x2.toNatClampNeg (0 : Int32)) fun M16 =>
        (ρ.1 r0 18).bind fun j17 =>
        if ρ.2.1 j17 = 0 then
        if ¬ (x2 < 0 ∨ ρ.2.2.1 j17 ≤ x2.toNatClampNeg) then
        ao_let (ao_u M16 j17 x2.toNatClampNeg (0 : Int32)) fun M20 =>
        (ρ.1 r0 19).bind fun j21 =>
        if ρ.2.1 j21 = 0 then
        if ¬ (x2 < 0 ∨ ρ.2.2.1 j21 ≤ x2.toNatClampNeg) then
        ao_let (ao_u M20 j21 x2.toNatClampNeg (-1 : Int32)) fun M24 =>
        (ρ.1 r0 20).bind fun j25 =>
        if ρ.2.1 j25 = 0 then
        if ¬ (x2 < 0 ∨ ρ.2.2.1 j25 ≤ x2.toNatClampNeg) then
        ao_let (ao_u M24 j25 x2.toNatClampNeg (0 : Int32)) fun M28 =>
        (ρ.1 r0 21).bind fun j29 =>
        if ρ.2.1 j29 = 0 then
        if ¬ (x2 < 0 ∨ ρ.2.2.1 j29 ≤ x2.toNatClampNeg) then
        ao_let (ao_u M28 j29 x2.toNatClampNeg (-1 : Int32)) fun M32 =>
        ao_let (x2 + (1 : Int32)) fun v33 =>
        fX12_begin n 47 r0 x1 v33 M32 ρ
        else none
        else none
        else none
        else none
        else none
        else none
        else none
        else none
        else none
        else none
        else none
    else if pc = 96 then
      if (6 : Int32) ≤ x2 then
        some M
      else
        if ρ.2.1 r0 = 22 then
        (gX12_reset n r0 x2 M ρ).bind fun p36 =>
        ao_let (x2 + (1 : Int32)) fun v37 =>
        fX12_begin n 96 r0 x1 v37 p36 ρ
        else none
    else none
def gX12_begin (n : Nat) (r0 : Nat) (x1 : Int32) (M : ao_M) (ρ : ao_H) : Option (ao_M) := fX12_begin n 0 r0 x1 0 M ρ
set_option maxRecDepth 100000 in
set_option maxHeartbeats 4000000 in
theorem wX12_begin {Γ : ao_C} {ρ : ao_H} (d : Nat) (hd : 3 ≤ d) : ∀ n : Nat, (∀ (r0 : Nat) (x1 : Int32) (M : ao_M) (y : ao_M), fX12_begin n 0 r0 x1 0 M ρ = some y → ao_W Γ uX12_begin (ao_rm d 0 0) (ao_Q Γ (ao_PV ρ y) 0 0) 0 0 0 [some (.ref (Γ.2.2.2 + r0)), some (.int x1), none] [] (M, ρ)) ∧ (∀ (r0 : Nat) (x1 : Int32) (x2 : Int32) (M : ao_M) (y : ao_M), fX12_begin n 47 r0 x1 x2 M ρ = some y → ao_W Γ uX12_begin (ao_rm d 0 0) (ao_Q Γ (ao_PV ρ y) 0 0) 0 0 47 [some (.ref (Γ.2.2.2 + r0)), some (.int x1), some (.int x2)] [] (M, ρ)) ∧ (∀ (r0 : Nat) (x1 : Int32) (x2 : Int32) (M : ao_M) (y : ao_M), fX12_begin n 96 r0 x1 x2 M ρ = some y → ao_W Γ uX12_begin (ao_rm d 0 0) (ao_Q Γ (ao_PV ρ y) 0 0) 0 0 96 [some (.ref (Γ.2.2.2 + r0)), some (.int x1), some (.int x2)] [] (M, ρ)) := by
  intro n
  induction n with
  | zero => exact ⟨fun _ _ _ _ h => ao_no h, fun _ _ _ _ _ h => ao_no h, fun _ _ _ _ _ h => ao_no h⟩
  | succ n ih =>
    refine ⟨?_, ?_, ?_⟩
    · intro r0 x1 M y h
      replace h := ao_ifT h rfl
      refine ao_aload_n 0 dX12_begin_0 rfl rfl ?_
      refine ao_iload_n 1 dX12_begin_1 rfl rfl ?_
      obtain ⟨hk1, h⟩ := ao_some h
      refine an_putI r0 12 27 (q := (RX12, TX12, 83)) dX12_begin_2 rfl hk1 (Nat.le_of_ble_eq_true rfl) lf_X12_332 rfl rfl rfl rfl (fun M2 hM2 => ?_)
      replace h := ao_letD h hM2
      refine ao_aload_n 0 dX12_begin_5 rfl rfl ?_
      refine ao_iconst (v := 0) dX12_begin_6 (by decide) ?_
      refine an_putI r0 12 26 (q := (RX12, TX12, 83)) dX12_begin_7 rfl hk1 (Nat.le_of_ble_eq_true rfl) lf_X12_148 rfl rfl rfl rfl (fun M3 hM3 => ?_)
      replace h := ao_letD h hM3
      refine ao_aload_n 0 dX12_begin_10 rfl rfl ?_
      refine ao_iconst (v := 0) dX12_begin_11 (by decide) ?_
      refine an_putI r0 12 25 (q := (RX12, TX12, 83)) dX12_begin_12 rfl hk1 (Nat.le_of_ble_eq_true rfl) lf_X12_132 rfl rfl rfl rfl (fun M4 hM4 => ?_)
      replace h := ao_letD h hM4
      refine ao_aload_n 0 dX12_begin_15 rfl rfl ?_
      refine ao_iconst (v := 0) dX12_begin_16 (by decide) ?_
      refine an_putI r0 12 68 (q := (RX12, TX12, 83)) dX12_begin_17 rfl hk1 (Nat.le_of_ble_eq_true rfl) lf_X12_335 rfl rfl rfl rfl (fun M5 hM5 => ?_)
      replace h := ao_letD h hM5
      refine ao_aload_n 0 dX12_begin_20 rfl rfl ?_
      refine ao_iconst (v := 0) dX12_begin_21 (by decide) ?_
      refine an_putI r0 12 76 (q := (RX12, TX12, 83)) dX12_begin_22 rfl hk1 (Nat.le_of_ble_eq_true rfl) lf_X12_338 rfl rfl rfl rfl (fun M6 hM6 => ?_)
      replace h := ao_letD h hM6
      refine ao_aload_n 0 dX12_begin_25 rfl rfl ?_
      refine ao_iconst (v := 0) dX12_begin_26 (by decide) ?_
      refine an_putI r0 12 65 (q := (RX12, TX12, 83)) dX12_begin_27 rfl hk1 (Nat.le_of_ble_eq_true rfl) lf_X12_341 rfl rfl rfl rfl (fun M7 hM7 => ?_)
      replace h := ao_letD h hM7
      refine ao_aload_n 0 dX12_begin_30 rfl rfl ?_
      refine ao_iconst (v := 0) dX12_begin_31 (by decide) ?_
      refine an_putI r0 12 63 (q := (RX12, TX12, 83)) dX12_begin_32 rfl hk1 (Nat.le_of_ble_eq_true rfl) lf_X12_344 rfl rfl rfl rfl (fun M8 hM8 => ?_)
      replace h := ao_letD h hM8
      refine ao_aload_n 0 dX12_begin_35 rfl rfl ?_
      refine ao_iconst (v := 0) dX12_begin_36 (by decide) ?_
      refine an_putI r0 12 82 (q := (RX12, TX12, 83)) dX12_begin_37 rfl hk1 (Nat.le_of_ble_eq_true rfl) lf_X12_347 rfl rfl rfl rfl (fun M9 hM9 => ?_)
      replace h := ao_letD h hM9
      refine ao_aload_n 0 dX12_begin_40 rfl rfl ?_
      refine ao_iconst (v := (-1)) dX12_begin_41 (by decide) ?_
      refine an_putI r0 12 3 (q := (RX12, TX12, 83)) dX12_begin_42 rfl hk1 (Nat.le_of_ble_eq_true rfl) lf_X12_171 rfl rfl rfl rfl (fun M10 hM10 => ?_)
      replace h := ao_letD h hM10
      refine ao_iconst (v := 0) dX12_begin_45 (by decide) ?_
      refine ao_istore_n 2 (lo' := [some (.ref (Γ.2.2.2 + r0)), some (.int x1), some (.int (0 : Int32))]) dX12_begin_46 rfl (Nat.le_of_ble_eq_true rfl) rfl ?_
      exact ih.2.1 r0 x1 (0 : Int32) M10 _ h
    · intro r0 x1 x2 M y h
      replace h := ao_ifF h (by decide)
      replace h := ao_ifT h rfl
      refine ao_iload_n 2 dX12_begin_47 rfl rfl ?_
      refine ao_bipush (v := 26) dX12_begin_48 (by decide) ?_
      refine ao_icmp_ge 94 dX12_begin_50 (by decide) (fun c11 => ?_) (fun c11 => ?_)
      · replace h := ao_ifT h c11
        refine ao_iconst (v := 0) dX12_begin_94 (by decide) ?_
        refine ao_istore_n 2 (lo' := [some (.ref (Γ.2.2.2 + r0)), some (.int x1), some (.int (0 : Int32))]) dX12_begin_95 rfl (Nat.le_of_ble_eq_true rfl) rfl ?_
        exact ih.2.2 r0 x1 (0 : Int32) M _ h
      · replace h := ao_ifF h c11
        refine ao_aload_n 0 dX12_begin_53 rfl rfl ?_
        obtain ⟨hk12, h⟩ := ao_some h
        obtain ⟨j13, hj13, h⟩ := ao_bind h
        refine an_getR r0 12 17 (q := (RX12, TX12, 83)) dX12_begin_54 rfl hk12 (Nat.le_of_ble_eq_true rfl) rfl lf_X12_151 hj13 ?_
        refine ao_iload_n 2 dX12_begin_57 rfl rfl ?_
        refine ao_iconst (v := 0) dX12_begin_58 (by decide) ?_
        obtain ⟨hk14, h⟩ := ao_some h
        obtain ⟨hb15, h⟩ := ao_some h
        refine an_iastore j13 dX12_begin_59 hk14 hb15 (fun M16 hM16 => ?_)
        replace h := ao_letD h hM16
        refine ao_aload_n 0 dX12_begin_60 rfl rfl ?_
        obtain ⟨j17, hj17, h⟩ := ao_bind h
        refine an_getR r0 12 18 (q := (RX12, TX12, 83)) dX12_begin_61 rfl hk12 (Nat.le_of_ble_eq_true rfl) rfl lf_X12_157 hj17 ?_
        refine ao_iload_n 2 dX12_begin_64 rfl rfl ?_
        refine ao_iconst (v := 0) dX12_begin_65 (by decide) ?_
        obtain ⟨hk18, h⟩ := ao_some h
        obtain ⟨hb19, h⟩ := ao_some h
        refine an_iastore j17 dX12_begin_66 hk18 hb19 (fun M20 hM20 => ?_)
        replace h := ao_letD h hM20
        refine ao_aload_n 0 dX12_begin_67 rfl rfl ?_
        obtain ⟨j21, hj21, h⟩ := ao_bind h
        refine an_getR r0 12 19 (q := (RX12, TX12, 83)) dX12_begin_68 rfl hk12 (Nat.le_of_ble_eq_true rfl) rfl lf_X12_177 hj21 ?_
        refine ao_iload_n 2 dX12_begin_71 rfl rfl ?_
        refine ao_iconst (v := (-1)) dX12_begin_72 (by decide) ?_
        obtain ⟨hk22, h⟩ := ao_some h
        obtain ⟨hb23, h⟩ := ao_some h
        refine an_iastore j21 dX12_begin_73 hk22 hb23 (fun M24 hM24 => ?_)
        replace h := ao_letD h hM24
        refine ao_aload_n 0 dX12_begin_74 rfl rfl ?_
        obtain ⟨j25, hj25, h⟩ := ao_bind h
        refine an_getR r0 12 20 (q := (RX12, TX12, 83)) dX12_begin_75 rfl hk12 (Nat.le_of_ble_eq_true rfl) rfl lf_X12_180 hj25 ?_
        refine ao_iload_n 2 dX12_begin_78 rfl rfl ?_
        refine ao_iconst (v := 0) dX12_begin_79 (by decide) ?_
        obtain ⟨hk26, h⟩ := ao_some h
        obtain ⟨hb27, h⟩ := ao_some h
        refine an_iastore j25 dX12_begin_80 hk26 hb27 (fun M28 hM28 => ?_)
        replace h := ao_letD h hM28
        refine ao_aload_n 0 dX12_begin_81 rfl rfl ?_
        obtain ⟨j29, hj29, h⟩ := ao_bind h
        refine an_getR r0 12 21 (q := (RX12, TX12, 83)) dX12_begin_82 rfl hk12 (Nat.le_of_ble_eq_true rfl) rfl lf_X12_154 hj29 ?_
        refine ao_iload_n 2 dX12_begin_85 rfl rfl ?_
        refine ao_iconst (v := (-1)) dX12_begin_86 (by decide) ?_
        obtain ⟨hk30, h⟩ := ao_some h
        obtain ⟨hb31, h⟩ := ao_some h
        refine an_iastore j29 dX12_begin_87 hk30 hb31 (fun M32 hM32 => ?_)
        replace h := ao_letD h hM32
        obtain ⟨v33, hv33⟩ : ∃ z : Int32, z = x2 + (1 : Int32) := ⟨_, rfl⟩
        replace h := ao_letD h hv33
        refine ao_iinc 2 (v := v33) (lo' := [some (.ref (Γ.2.2.2 + r0)), some (.int x1), some (.int v33)]) dX12_begin_88 rfl (by rw [hv33]; rfl) (Nat.le_of_ble_eq_true rfl) rfl ?_
        refine ao_goto 47 dX12_begin_91 (by decide) ?_
        exact ih.2.1 r0 x1 v33 M32 _ h
    · intro r0 x1 x2 M y h
      replace h := ao_ifF h (by decide)
      replace h := ao_ifF h (by decide)
      replace h := ao_ifT h rfl
      refine ao_iload_n 2 dX12_begin_96 rfl rfl ?_
      refine ao_bipush (v := 6) dX12_begin_97 (by decide) ?_
      refine ao_icmp_ge 113 dX12_begin_99 (by decide) (fun c34 => ?_) (fun c34 => ?_)
      · replace h := ao_ifT h c34
        cases h
        exact ao_return dX12_begin_113 rfl ⟨rfl, rfl⟩
      · replace h := ao_ifF h c34
        refine ao_aload_n 0 dX12_begin_102 rfl rfl ?_
        refine ao_iload_n 2 dX12_begin_103 rfl rfl ?_
        obtain ⟨hk35, h⟩ := ao_some h
        obtain ⟨p36, hp36, h⟩ := ao_bind h
        refine an_callVv r0 12 (q := (RX12, TX12, 83)) [.int x2] (aX12_reset (d - 1) (by omega) _ r0 x2 M ρ hp36) dX12_begin_104 lc_X12_350 li_X12_reset ls_X12_reset rfl hk35 rfl rfl (Nat.le_of_ble_eq_true rfl) (ao_hR (by omega) (by decide)) ?_
        obtain ⟨v37, hv37⟩ : ∃ z : Int32, z = x2 + (1 : Int32) := ⟨_, rfl⟩
        replace h := ao_letD h hv37
        refine ao_iinc 2 (v := v37) (lo' := [some (.ref (Γ.2.2.2 + r0)), some (.int x1), some (.int v37)]) dX12_begin_107 rfl (by rw [hv37]; rfl) (Nat.le_of_ble_eq_true rfl) rfl ?_
        refine ao_goto 96 dX12_begin_110 (by decide) ?_
        exact ih.2.2 r0 x1 v37 p36 _ h
set_option maxRecDepth 100000 in
set_option maxHeartbeats 4000000 in
theorem aX12_begin {Γ : ao_C} (d : Nat) (hd : 3 ≤ d) (n : Nat) (r0 : Nat) (x1 : Int32) (M : ao_M) (ρ : ao_H) {y : ao_M} (h : gX12_begin n r0 x1 M ρ = some y) : ao_A Γ uX12_begin d 0 0 [.ref (Γ.2.2.2 + r0), .int x1] (M, ρ) (ao_PV ρ y) := by
  refine ao_of (by decide) (ao_cat1 (Nat.le_of_ble_eq_true rfl)) (Nat.le_of_ble_eq_true rfl) ?_
  show ao_W Γ uX12_begin (ao_rm d 0 0) (ao_Q Γ (ao_PV ρ y) 0 0) 0 0 0 [some (.ref (Γ.2.2.2 + r0)), some (.int x1), none] [] (M, ρ)
  exact (wX12_begin d hd n).1 r0 x1 M y h

abbrev uX12_start : ao_Mi := (yX12_start, cX12_start, 2, none, [])
def fX12_start : Nat → Nat → Nat → Int32 → Nat → Int32 → Nat →  ao_M → ao_H → Option (ao_M)
  | 0, _, _, _, _, _, _, _, _ => none
  | n + 1, pc, r0, x1, q0, s0, q1, M, ρ =>
    if pc = 0 then
      if x1 < 0 then
        fX12_start n 10 r0 x1 r0 0 0 M ρ
      else
        if x1 ≤ (4 : Int32) then
          fX12_start n 15 r0 x1 0 (0 : Int32) r0 M ρ
        else
          fX12_start n 10 r0 x1 r0 0 0 M ρ
    else if pc = 10 then
      fX12_start n 15 r0 x1 0 (1 : Int32) q0 M ρ
    else if pc = 15 then
      if ρ.2.1 q1 = 22 then
      (gX12_fails q1 s0 M ρ).bind fun p4 =>
      if p4.1 = 0 then
        if ρ.2.1 r0 = 22 then
        (gX12_begin n r0 x1 p4.2 ρ).bind fun p7 =>
        some p7
        else none
      else
        some p4.2
      else none
    else none
def gX12_start (n : Nat) (r0 : Nat) (x1 : Int32) (M : ao_M) (ρ : ao_H) : Option (ao_M) := fX12_start n 0 r0 x1 0 0 0 M ρ
set_option maxRecDepth 100000 in
set_option maxHeartbeats 4000000 in
theorem wX12_start {Γ : ao_C} {ρ : ao_H} (d : Nat) (hd : 4 ≤ d) : ∀ n : Nat, (∀ (r0 : Nat) (x1 : Int32) (M : ao_M) (y : ao_M), fX12_start n 0 r0 x1 0 0 0 M ρ = some y → ao_W Γ uX12_start (ao_rm d 0 0) (ao_Q Γ (ao_PV ρ y) 0 0) 0 0 0 [some (.ref (Γ.2.2.2 + r0)), some (.int x1)] [] (M, ρ)) ∧ (∀ (r0 : Nat) (x1 : Int32) (q0 : Nat) (M : ao_M) (y : ao_M), fX12_start n 10 r0 x1 q0 0 0 M ρ = some y → ao_W Γ uX12_start (ao_rm d 0 0) (ao_Q Γ (ao_PV ρ y) 0 0) 0 0 10 [some (.ref (Γ.2.2.2 + r0)), some (.int x1)] [.ref (Γ.2.2.2 + q0)] (M, ρ)) ∧ (∀ (r0 : Nat) (x1 : Int32) (s0 : Int32) (q1 : Nat) (M : ao_M) (y : ao_M), fX12_start n 15 r0 x1 0 s0 q1 M ρ = some y → ao_W Γ uX12_start (ao_rm d 0 0) (ao_Q Γ (ao_PV ρ y) 0 0) 0 0 15 [some (.ref (Γ.2.2.2 + r0)), some (.int x1)] [.int s0, .ref (Γ.2.2.2 + q1)] (M, ρ)) := by
  intro n
  induction n with
  | zero => exact ⟨fun _ _ _ _ h => ao_no h, fun _ _ _ _ _ h => ao_no h, fun _ _ _ _ _ _ h => ao_no h⟩
  | succ n ih =>
    refine ⟨?_, ?_, ?_⟩
    · intro r0 x1 M y h
      replace h := ao_ifT h rfl
      refine ao_aload_n 0 dX12_start_0 rfl rfl ?_
      refine ao_iload_n 1 dX12_start_1 rfl rfl ?_
      refine ao_if_lt 10 dX12_start_2 (by decide) (fun c1 => ?_) (fun c1 => ?_)
      · replace h := ao_ifT h c1
        exact ih.2.1 r0 x1 r0 M _ h
      · replace h := ao_ifF h c1
        refine ao_iload_n 1 dX12_start_5 rfl rfl ?_
        refine ao_iconst (v := 4) dX12_start_6 (by decide) ?_
        refine ao_icmp_le 14 dX12_start_7 (by decide) (fun c2 => ?_) (fun c2 => ?_)
        · replace h := ao_ifT h c2
          refine ao_iconst (v := 0) dX12_start_14 (by decide) ?_
          exact ih.2.2 r0 x1 (0 : Int32) r0 M _ h
        · replace h := ao_ifF h c2
          exact ih.2.1 r0 x1 r0 M _ h
    · intro r0 x1 q0 M y h
      replace h := ao_ifF h (by decide)
      replace h := ao_ifT h rfl
      refine ao_iconst (v := 1) dX12_start_10 (by decide) ?_
      refine ao_goto 15 dX12_start_11 (by decide) ?_
      exact ih.2.2 r0 x1 (1 : Int32) q0 M _ h
    · intro r0 x1 s0 q1 M y h
      replace h := ao_ifF h (by decide)
      replace h := ao_ifF h (by decide)
      replace h := ao_ifT h rfl
      obtain ⟨hk3, h⟩ := ao_some h
      obtain ⟨p4, hp4, h⟩ := ao_bind h
      refine an_callVi q1 12 (q := (RX12, TX12, 83)) [.int s0] (aX12_fails (d - 1) (by omega) q1 s0 M ρ hp4) dX12_start_15 lc_X12_497 li_X12_fails ls_X12_fails rfl hk3 rfl rfl (Nat.le_of_ble_eq_true rfl) (ao_hR (by omega) (by decide)) ?_
      refine ao_if_eq 22 dX12_start_18 (by decide) (fun c5 => ?_) (fun c5 => ?_)
      · replace h := ao_ifT h c5
        refine ao_aload_n 0 dX12_start_22 rfl rfl ?_
        refine ao_iload_n 1 dX12_start_23 rfl rfl ?_
        obtain ⟨hk6, h⟩ := ao_some h
        obtain ⟨p7, hp7, h⟩ := ao_bind h
        refine an_callVv r0 12 (q := (RX12, TX12, 83)) [.int x1] (aX12_begin (d - 1) (by omega) _ r0 x1 p4.2 ρ hp7) dX12_start_24 lc_X12_329 li_X12_begin ls_X12_begin rfl hk6 rfl rfl (Nat.le_of_ble_eq_true rfl) (ao_hR (by omega) (by decide)) ?_
        cases h
        exact ao_return dX12_start_27 rfl ⟨rfl, rfl⟩
      · replace h := ao_ifF h c5
        cases h
        exact ao_return dX12_start_21 rfl ⟨rfl, rfl⟩
set_option maxRecDepth 100000 in
set_option maxHeartbeats 4000000 in
theorem aX12_start {Γ : ao_C} (d : Nat) (hd : 4 ≤ d) (n : Nat) (r0 : Nat) (x1 : Int32) (M : ao_M) (ρ : ao_H) {y : ao_M} (h : gX12_start n r0 x1 M ρ = some y) : ao_A Γ uX12_start d 0 0 [.ref (Γ.2.2.2 + r0), .int x1] (M, ρ) (ao_PV ρ y) := by
  refine ao_of (by decide) (ao_cat1 (Nat.le_of_ble_eq_true rfl)) (Nat.le_of_ble_eq_true rfl) ?_
  show ao_W Γ uX12_start (ao_rm d 0 0) (ao_Q Γ (ao_PV ρ y) 0 0) 0 0 0 [some (.ref (Γ.2.2.2 + r0)), some (.int x1)] [] (M, ρ)
  exact (wX12_start d hd n).1 r0 x1 M y h

abbrev uX12_program : ao_Mi := (yX12_program, cX12_program, 3, (some .int), [(81, 85, 88, 168)])
def fX12_program : Nat → Nat → Nat → Int32 → Int32 → Int32 → Nat →  ao_M → ao_H → Option (Int32 × ao_S)
  | 0, _, _, _, _, _, _, _, _ => none
  | n + 1, pc, r0, x1, x2, s0, q1, M, ρ =>
    if pc = 0 then
      if ρ.2.1 r0 = 22 then
      ao_let (ao_u M r0 7 (M r0 6)) fun M2 =>
      ao_let (ao_u M2 r0 6 (0 : Int32)) fun M3 =>
      fX12_program n 15 r0 x1 (0 : Int32) 0 0 M3 ρ
      else none
    else if pc = 15 then
      if ρ.2.1 r0 = 22 then
      if (M r0 7) ≤ x2 then
        (gX12_isThread x1 M ρ).bind fun p6 =>
        if p6.1 = 0 then
          fX12_program n 68 r0 x1 x2 (1 : Int32) r0 p6.2 ρ
        else
          (ρ.1 r0 29).bind fun j8 =>
          if ρ.2.1 j8 = 0 then
          if ¬ (x1 < 0 ∨ ρ.2.2.1 j8 ≤ x1.toNatClampNeg) then
          if (p6.2 j8 x1.toNatClampNeg) = (2 : Int32) then
            fX12_program n 68 r0 x1 x2 (2 : Int32) r0 p6.2 ρ
          else
            fX12_program n 68 r0 x1 x2 (0 : Int32) r0 p6.2 ρ
          else none
          else none
      else
        (ρ.1 r0 5).bind fun j12 =>
        (ρ.1 r0 4).bind fun j13 =>
        if ρ.2.1 j13 = 1 then
        if ¬ (x2 < 0 ∨ ρ.2.2.1 j13 ≤ x2.toNatClampNeg) then
        if ρ.2.1 j12 = 1 then
        if ¬ (x2 < 0 ∨ ρ.2.2.1 j12 ≤ x2.toNatClampNeg) then
        ao_let (ao_u M j12 x2.toNatClampNeg ((M j13 x2.toNatClampNeg).toInt8.toInt32)) fun M18 =>
        ao_let (x2 + (1 : Int32)) fun v19 =>
        fX12_program n 15 r0 x1 v19 0 0 M18 ρ
        else none
        else none
        else none
        else none
      else none
    else if pc = 68 then
      if ρ.2.1 q1 = 22 then
      (gX12_fails q1 s0 M ρ).bind fun p21 =>
      if p21.1 = 0 then
        if ρ.2.1 r0 = 22 then
        ao_let (ao_u p21.2 r0 3 (-1 : Int32)) fun M24 =>
        (gX12_readProgram n r0 M24 ρ).bind fun p25 =>
        ao_cs p25.1 (fun wx26 => fX12_program n 85 r0 x1 x2 0 0 p25.2.1 p25.2.2) fun E28 =>
          if E28 = "AsOneHouseModel$Broken" then
            if p25.2.2.2.1 r0 = 22 then
            if (p25.2.1 r0 7) ≤ (p25.2.1 r0 2) then
              ao_let (ao_u p25.2.1 r0 3 (p25.2.1 r0 7)) fun M31 =>
              ao_let (ao_u M31 r0 0 (3 : Int32)) fun M32 =>
              some ((0 : Int32), M32, p25.2.2)
            else
              ao_let (ao_u p25.2.1 r0 3 (p25.2.1 r0 2)) fun M33 =>
              ao_let (ao_u M33 r0 0 (3 : Int32)) fun M34 =>
              some ((0 : Int32), M34, p25.2.2)
            else none
          else
          none
        else none
      else
        some ((0 : Int32), p21.2, ρ)
      else none
    else if pc = 85 then
      fX12_program n 124 r0 x1 (0 : Int32) 0 0 M ρ
    else if pc = 124 then
      if ρ.2.1 r0 = 22 then
      if ((3 : Int32) * (M r0 13)) ≤ x2 then
        (ρ.1 r0 29).bind fun j38 =>
        if ρ.2.1 j38 = 0 then
        if ¬ (x1 < 0 ∨ ρ.2.2.1 j38 ≤ x1.toNatClampNeg) then
        ao_let (ao_u M j38 x1.toNatClampNeg (1 : Int32)) fun M41 =>
        (gX12_reset n r0 x1 M41 ρ).bind fun p42 =>
        some ((p42 r0 15), p42, ρ)
        else none
        else none
      else
        (ρ.1 r0 28).bind fun j43 =>
        (ρ.1 r0 12).bind fun j44 =>
        if ρ.2.1 j44 = 0 then
        if ¬ (x2 < 0 ∨ ρ.2.2.1 j44 ≤ x2.toNatClampNeg) then
        if ρ.2.1 j43 = 0 then
        if ¬ ((((x1 * (3 : Int32)) * (6000 : Int32)) + x2) < 0 ∨ ρ.2.2.1 j43 ≤ (((x1 * (3 : Int32)) * (6000 : Int32)) + x2).toNatClampNeg) then
        ao_let (ao_u M j43 (((x1 * (3 : Int32)) * (6000 : Int32)) + x2).toNatClampNeg (M j44 x2.toNatClampNeg)) fun M49 =>
        ao_let (x2 + (1 : Int32)) fun v50 =>
        fX12_program n 124 r0 x1 v50 0 0 M49 ρ
        else none
        else none
        else none
        else none
      else none
    else none
def gX12_program (n : Nat) (r0 : Nat) (x1 : Int32) (M : ao_M) (ρ : ao_H) : Option (Int32 × ao_S) := fX12_program n 0 r0 x1 0 0 0 M ρ
set_option maxRecDepth 100000 in
set_option maxHeartbeats 4000000 in
theorem mX12_program : ∀ n : Nat, (∀ (r0 : Nat) (x1 : Int32) (M : ao_M) (ρ : ao_H) (y : Int32 × ao_S), fX12_program n 0 r0 x1 0 0 0 M ρ = some y → ao_le ρ y.2.2) ∧ (∀ (r0 : Nat) (x1 : Int32) (x2 : Int32) (M : ao_M) (ρ : ao_H) (y : Int32 × ao_S), fX12_program n 15 r0 x1 x2 0 0 M ρ = some y → ao_le ρ y.2.2) ∧ (∀ (r0 : Nat) (x1 : Int32) (x2 : Int32) (s0 : Int32) (q1 : Nat) (M : ao_M) (ρ : ao_H) (y : Int32 × ao_S), fX12_program n 68 r0 x1 x2 s0 q1 M ρ = some y → ao_le ρ y.2.2) ∧ (∀ (r0 : Nat) (x1 : Int32) (x2 : Int32) (M : ao_M) (ρ : ao_H) (y : Int32 × ao_S), fX12_program n 85 r0 x1 x2 0 0 M ρ = some y → ao_le ρ y.2.2) ∧ (∀ (r0 : Nat) (x1 : Int32) (x2 : Int32) (M : ao_M) (ρ : ao_H) (y : Int32 × ao_S), fX12_program n 124 r0 x1 x2 0 0 M ρ = some y → ao_le ρ y.2.2) := by
  intro n
  induction n with
  | zero => exact ⟨fun _ _ _ _ _ h => ao_no h, fun _ _ _ _ _ _ h => ao_no h, fun _ _ _ _ _ _ _ _ h => ao_no h, fun _ _ _ _ _ _ h => ao_no h, fun _ _ _ _ _ _ h => ao_no h⟩
  | succ n ih =>
    refine ⟨?_, ?_, ?_, ?_, ?_⟩
    · intro r0 x1 M ρ y h
      replace h := ao_ifT h rfl
      obtain ⟨-, h⟩ := ao_some h
      replace h := ao_letD h rfl
      generalize (ao_u M r0 7 (M r0 6)) = M2 at h
      replace h := ao_letD h rfl
      generalize (ao_u M2 r0 6 (0 : Int32)) = M3 at h
      exact ih.2.1 r0 x1 (0 : Int32) M3 ρ _ h
    · intro r0 x1 x2 M ρ y h
      replace h := ao_ifF h (by decide)
      replace h := ao_ifT h rfl
      obtain ⟨-, h⟩ := ao_some h
      rcases ao_ifC h with h | h
      · obtain ⟨p6, hp6, h⟩ := ao_bind h
        rcases ao_ifC h with h | h
        · exact ih.2.2.1 r0 x1 x2 (1 : Int32) r0 p6.2 ρ _ h
        · obtain ⟨j8, hj8, h⟩ := ao_bind h
          obtain ⟨-, h⟩ := ao_some h
          obtain ⟨-, h⟩ := ao_some h
          rcases ao_ifC h with h | h
          · exact ih.2.2.1 r0 x1 x2 (2 : Int32) r0 p6.2 ρ _ h
          · exact ih.2.2.1 r0 x1 x2 (0 : Int32) r0 p6.2 ρ _ h
      · obtain ⟨j12, hj12, h⟩ := ao_bind h
        obtain ⟨j13, hj13, h⟩ := ao_bind h
        obtain ⟨-, h⟩ := ao_some h
        obtain ⟨-, h⟩ := ao_some h
        obtain ⟨-, h⟩ := ao_some h
        obtain ⟨-, h⟩ := ao_some h
        replace h := ao_letD h rfl
        generalize (ao_u M j12 x2.toNatClampNeg ((M j13 x2.toNatClampNeg).toInt8.toInt32)) = M18 at h
        replace h := ao_letD h rfl
        generalize (x2 + (1 : Int32)) = v19 at h
        exact ih.2.1 r0 x1 v19 M18 ρ _ h
    · intro r0 x1 x2 s0 q1 M ρ y h
      replace h := ao_ifF h (by decide)
      replace h := ao_ifF h (by decide)
      replace h := ao_ifT h rfl
      obtain ⟨-, h⟩ := ao_some h
      obtain ⟨p21, hp21, h⟩ := ao_bind h
      rcases ao_ifC h with h | h
      · obtain ⟨-, h⟩ := ao_some h
        replace h := ao_letD h rfl
        generalize (ao_u p21.2 r0 3 (-1 : Int32)) = M24 at h
        obtain ⟨p25, hp25, h⟩ := ao_bind h
        refine ao_le_tr (me_X12_readProgram n r0 M24 ρ hp25) ?_
        refine ao_csM h (fun wx26 h => ?_) (fun _ h => ?_)
        · exact ih.2.2.2.1 r0 x1 x2 p25.2.1 p25.2.2 _ h
        · rcases ao_ifC h with h | h
          · obtain ⟨-, h⟩ := ao_some h
            rcases ao_ifC h with h | h
            · replace h := ao_letD h rfl
              generalize (ao_u p25.2.1 r0 3 (p25.2.1 r0 7)) = M31 at h
              replace h := ao_letD h rfl
              generalize (ao_u M31 r0 0 (3 : Int32)) = M32 at h
              cases h
              exact ao_le_rf _
            · replace h := ao_letD h rfl
              generalize (ao_u p25.2.1 r0 3 (p25.2.1 r0 2)) = M33 at h
              replace h := ao_letD h rfl
              generalize (ao_u M33 r0 0 (3 : Int32)) = M34 at h
              cases h
              exact ao_le_rf _
          · exact ao_no h
      · cases h
        exact ao_le_rf _
    · intro r0 x1 x2 M ρ y h
      replace h := ao_ifF h (by decide)
      replace h := ao_ifF h (by decide)
      replace h := ao_ifF h (by decide)
      replace h := ao_ifT h rfl
      exact ih.2.2.2.2 r0 x1 (0 : Int32) M ρ _ h
    · intro r0 x1 x2 M ρ y h
      replace h := ao_ifF h (by decide)
      replace h := ao_ifF h (by decide)
      replace h := ao_ifF h (by decide)
      replace h := ao_ifF h (by decide)
      replace h := ao_ifT h rfl
      obtain ⟨-, h⟩ := ao_some h
      rcases ao_ifC h with h | h
      · obtain ⟨j38, hj38, h⟩ := ao_bind h
        obtain ⟨-, h⟩ := ao_some h
        obtain ⟨-, h⟩ := ao_some h
        replace h := ao_letD h rfl
        generalize (ao_u M j38 x1.toNatClampNeg (1 : Int32)) = M41 at h
        obtain ⟨p42, hp42, h⟩ := ao_bind h
        cases h
        exact ao_le_rf _
      · obtain ⟨j43, hj43, h⟩ := ao_bind h
        obtain ⟨j44, hj44, h⟩ := ao_bind h
        obtain ⟨-, h⟩ := ao_some h
        obtain ⟨-, h⟩ := ao_some h
        obtain ⟨-, h⟩ := ao_some h
        obtain ⟨-, h⟩ := ao_some h
        replace h := ao_letD h rfl
        generalize (ao_u M j43 (((x1 * (3 : Int32)) * (6000 : Int32)) + x2).toNatClampNeg (M j44 x2.toNatClampNeg)) = M49 at h
        replace h := ao_letD h rfl
        generalize (x2 + (1 : Int32)) = v50 at h
        exact ih.2.2.2.2 r0 x1 v50 M49 ρ _ h
set_option maxRecDepth 100000 in
set_option maxHeartbeats 4000000 in
theorem wX12_program {Γ : ao_C} (d : Nat) (hd : 140 ≤ d) (MC MS : Nat) : ∀ n : Nat, (∀ (r0 : Nat) (x1 : Int32) (M : ao_M) (ρ : ao_H) (y : Int32 × ao_S), fX12_program n 0 r0 x1 0 0 0 M ρ = some y → ao_W Γ uX12_program (ao_rm d MC MS) (ao_Q Γ (ao_QI y) MC MS) (ao_dc ρ y.2.2) (ao_ds ρ y.2.2) 0 [some (.ref (Γ.2.2.2 + r0)), some (.int x1), none] [] (M, ρ)) ∧ (∀ (r0 : Nat) (x1 : Int32) (x2 : Int32) (M : ao_M) (ρ : ao_H) (y : Int32 × ao_S), fX12_program n 15 r0 x1 x2 0 0 M ρ = some y → ao_W Γ uX12_program (ao_rm d MC MS) (ao_Q Γ (ao_QI y) MC MS) (ao_dc ρ y.2.2) (ao_ds ρ y.2.2) 15 [some (.ref (Γ.2.2.2 + r0)), some (.int x1), some (.int x2)] [] (M, ρ)) ∧ (∀ (r0 : Nat) (x1 : Int32) (x2 : Int32) (s0 : Int32) (q1 : Nat) (M : ao_M) (ρ : ao_H) (y : Int32 × ao_S), fX12_program n 68 r0 x1 x2 s0 q1 M ρ = some y → ao_W Γ uX12_program (ao_rm d MC MS) (ao_Q Γ (ao_QI y) MC MS) (ao_dc ρ y.2.2) (ao_ds ρ y.2.2) 68 [some (.ref (Γ.2.2.2 + r0)), some (.int x1), some (.int x2)] [.int s0, .ref (Γ.2.2.2 + q1)] (M, ρ)) ∧ (∀ (r0 : Nat) (x1 : Int32) (x2 : Int32) (M : ao_M) (ρ : ao_H) (y : Int32 × ao_S), fX12_program n 85 r0 x1 x2 0 0 M ρ = some y → ao_W Γ uX12_program (ao_rm d MC MS) (ao_Q Γ (ao_QI y) MC MS) (ao_dc ρ y.2.2) (ao_ds ρ y.2.2) 85 [some (.ref (Γ.2.2.2 + r0)), some (.int x1), some (.int x2)] [] (M, ρ)) ∧ (∀ (r0 : Nat) (x1 : Int32) (x2 : Int32) (M : ao_M) (ρ : ao_H) (y : Int32 × ao_S), fX12_program n 124 r0 x1 x2 0 0 M ρ = some y → ao_W Γ uX12_program (ao_rm d MC MS) (ao_Q Γ (ao_QI y) MC MS) (ao_dc ρ y.2.2) (ao_ds ρ y.2.2) 124 [some (.ref (Γ.2.2.2 + r0)), some (.int x1), some (.int x2)] [] (M, ρ)) := by
  intro n
  induction n with
  | zero => exact ⟨fun _ _ _ _ _ h => ao_no h, fun _ _ _ _ _ _ h => ao_no h, fun _ _ _ _ _ _ _ _ h => ao_no h, fun _ _ _ _ _ _ h => ao_no h, fun _ _ _ _ _ _ h => ao_no h⟩
  | succ n ih =>
    refine ⟨?_, ?_, ?_, ?_, ?_⟩
    · intro r0 x1 M ρ y h
      replace h := ao_ifT h rfl
      refine ao_aload_n 0 dX12_program_0 rfl rfl ?_
      refine ao_aload_n 0 dX12_program_1 rfl rfl ?_
      obtain ⟨hk1, h⟩ := ao_some h
      refine an_getI r0 12 6 (q := (RX12, TX12, 83)) dX12_program_2 rfl hk1 (Nat.le_of_ble_eq_true rfl) rfl lf_X12_494 ?_
      refine an_putI r0 12 7 (q := (RX12, TX12, 83)) dX12_program_5 rfl hk1 (Nat.le_of_ble_eq_true rfl) lf_X12_14 rfl rfl rfl rfl (fun M2 hM2 => ?_)
      replace h := ao_letD h hM2
      refine ao_aload_n 0 dX12_program_8 rfl rfl ?_
      refine ao_iconst (v := 0) dX12_program_9 (by decide) ?_
      refine an_putI r0 12 6 (q := (RX12, TX12, 83)) dX12_program_10 rfl hk1 (Nat.le_of_ble_eq_true rfl) lf_X12_494 rfl rfl rfl rfl (fun M3 hM3 => ?_)
      replace h := ao_letD h hM3
      refine ao_iconst (v := 0) dX12_program_13 (by decide) ?_
      refine ao_istore_n 2 (lo' := [some (.ref (Γ.2.2.2 + r0)), some (.int x1), some (.int (0 : Int32))]) dX12_program_14 rfl (Nat.le_of_ble_eq_true rfl) rfl ?_
      exact ih.2.1 r0 x1 (0 : Int32) M3 ρ _ h
    · intro r0 x1 x2 M ρ y h
      replace h := ao_ifF h (by decide)
      replace h := ao_ifT h rfl
      refine ao_iload_n 2 dX12_program_15 rfl rfl ?_
      refine ao_aload_n 0 dX12_program_16 rfl rfl ?_
      obtain ⟨hk4, h⟩ := ao_some h
      refine an_getI r0 12 7 (q := (RX12, TX12, 83)) dX12_program_17 rfl hk4 (Nat.le_of_ble_eq_true rfl) rfl lf_X12_14 ?_
      refine ao_icmp_ge 41 dX12_program_20 (by decide) (fun c5 => ?_) (fun c5 => ?_)
      · replace h := ao_ifT h c5
        refine ao_aload_n 0 dX12_program_41 rfl rfl ?_
        refine ao_iload_n 1 dX12_program_42 rfl rfl ?_
        obtain ⟨p6, hp6, h⟩ := ao_bind h
        refine an_callSi [.int x1] (aX12_isThread (d - 1) (by omega) x1 M ρ hp6) dX12_program_43 lc_X12_503 lt_X12_isThread rfl rfl (Nat.le_of_ble_eq_true rfl) (ao_hR (by omega) (by decide)) ?_
        refine ao_if_ne 53 dX12_program_46 (by decide) (fun c7 => ?_) (fun c7 => ?_)
        · replace h := ao_ifF h c7
          refine ao_aload_n 0 dX12_program_53 rfl rfl ?_
          obtain ⟨j8, hj8, h⟩ := ao_bind h
          refine an_getR r0 12 29 (q := (RX12, TX12, 83)) dX12_program_54 rfl hk4 (Nat.le_of_ble_eq_true rfl) rfl lf_X12_187 hj8 ?_
          refine ao_iload_n 1 dX12_program_57 rfl rfl ?_
          obtain ⟨hk9, h⟩ := ao_some h
          obtain ⟨hb10, h⟩ := ao_some h
          refine an_iaload j8 dX12_program_58 hk9 hb10 ?_
          refine ao_iconst (v := 2) dX12_program_59 (by decide) ?_
          refine ao_icmp_ne 67 dX12_program_60 (by decide) (fun c11 => ?_) (fun c11 => ?_)
          · replace h := ao_ifF h c11
            refine ao_iconst (v := 0) dX12_program_67 (by decide) ?_
            exact ih.2.2.1 r0 x1 x2 (0 : Int32) r0 p6.2 ρ _ h
          · replace h := ao_ifT h c11
            refine ao_iconst (v := 2) dX12_program_63 (by decide) ?_
            refine ao_goto 68 dX12_program_64 (by decide) ?_
            exact ih.2.2.1 r0 x1 x2 (2 : Int32) r0 p6.2 ρ _ h
        · replace h := ao_ifT h c7
          refine ao_iconst (v := 1) dX12_program_49 (by decide) ?_
          refine ao_goto 68 dX12_program_50 (by decide) ?_
          exact ih.2.2.1 r0 x1 x2 (1 : Int32) r0 p6.2 ρ _ h
      · replace h := ao_ifF h c5
        refine ao_aload_n 0 dX12_program_23 rfl rfl ?_
        obtain ⟨j12, hj12, h⟩ := ao_bind h
        refine an_getR r0 12 5 (q := (RX12, TX12, 83)) dX12_program_24 rfl hk4 (Nat.le_of_ble_eq_true rfl) rfl lf_X12_17 hj12 ?_
        refine ao_iload_n 2 dX12_program_27 rfl rfl ?_
        refine ao_aload_n 0 dX12_program_28 rfl rfl ?_
        obtain ⟨j13, hj13, h⟩ := ao_bind h
        refine an_getR r0 12 4 (q := (RX12, TX12, 83)) dX12_program_29 rfl hk4 (Nat.le_of_ble_eq_true rfl) rfl lf_X12_174 hj13 ?_
        refine ao_iload_n 2 dX12_program_32 rfl rfl ?_
        obtain ⟨hk14, h⟩ := ao_some h
        obtain ⟨hb15, h⟩ := ao_some h
        refine an_baload j13 dX12_program_33 hk14 hb15 ?_
        obtain ⟨hk16, h⟩ := ao_some h
        obtain ⟨hb17, h⟩ := ao_some h
        refine an_bastore j12 dX12_program_34 hk16 hb17 (fun M18 hM18 => ?_)
        replace h := ao_letD h hM18
        obtain ⟨v19, hv19⟩ : ∃ z : Int32, z = x2 + (1 : Int32) := ⟨_, rfl⟩
        replace h := ao_letD h hv19
        refine ao_iinc 2 (v := v19) (lo' := [some (.ref (Γ.2.2.2 + r0)), some (.int x1), some (.int v19)]) dX12_program_35 rfl (by rw [hv19]; rfl) (Nat.le_of_ble_eq_true rfl) rfl ?_
        refine ao_goto 15 dX12_program_38 (by decide) ?_
        exact ih.2.1 r0 x1 v19 M18 ρ _ h
    · intro r0 x1 x2 s0 q1 M ρ y h
      replace h := ao_ifF h (by decide)
      replace h := ao_ifF h (by decide)
      replace h := ao_ifT h rfl
      obtain ⟨hk20, h⟩ := ao_some h
      obtain ⟨p21, hp21, h⟩ := ao_bind h
      refine an_callVi q1 12 (q := (RX12, TX12, 83)) [.int s0] (aX12_fails (d - 1) (by omega) q1 s0 M ρ hp21) dX12_program_68 lc_X12_497 li_X12_fails ls_X12_fails rfl hk20 rfl rfl (Nat.le_of_ble_eq_true rfl) (ao_hR (by omega) (by decide)) ?_
      refine ao_if_eq 76 dX12_program_71 (by decide) (fun c22 => ?_) (fun c22 => ?_)
      · replace h := ao_ifT h c22
        refine ao_aload_n 0 dX12_program_76 rfl rfl ?_
        refine ao_iconst (v := (-1)) dX12_program_77 (by decide) ?_
        obtain ⟨hk23, h⟩ := ao_some h
        refine an_putI r0 12 3 (q := (RX12, TX12, 83)) dX12_program_78 rfl hk23 (Nat.le_of_ble_eq_true rfl) lf_X12_171 rfl rfl rfl rfl (fun M24 hM24 => ?_)
        replace h := ao_letD h hM24
        refine ao_aload_n 0 dX12_program_81 rfl rfl ?_
        obtain ⟨p25, hp25, h⟩ := ao_bind h
        have e9 : ao_le p25.2.2 y.2.2 := by
          refine ao_csM h (fun wx26 h => (mX12_program n).2.2.2.1 r0 x1 x2 p25.2.1 p25.2.2 _ h) (fun _ h => ?_)
          rcases ao_ifC h with h | h
          · obtain ⟨-, h⟩ := ao_some h
            rcases ao_ifC h with h | h
            · replace h := ao_letD h rfl
              generalize (ao_u p25.2.1 r0 3 (p25.2.1 r0 7)) = M31 at h
              replace h := ao_letD h rfl
              generalize (ao_u M31 r0 0 (3 : Int32)) = M32 at h
              cases h
              exact ao_le_rf _
            · replace h := ao_letD h rfl
              generalize (ao_u p25.2.1 r0 3 (p25.2.1 r0 2)) = M33 at h
              replace h := ao_letD h rfl
              generalize (ao_u M33 r0 0 (3 : Int32)) = M34 at h
              cases h
              exact ao_le_rf _
          · exact ao_no h
        refine cx_callVw r0 12 (q := (RX12, TX12, 83)) [] (aX12_readProgram (d - 1) (by omega) n r0 M24 ρ hp25) dX12_program_82 lc_X12_506 li_X12_readProgram ls_X12_readProgram rfl hk23 rfl rfl (Nat.le_of_ble_eq_true rfl) (ao_hR (by omega) (by decide)) (ao_leC (me_X12_readProgram n r0 M24 ρ hp25) e9) (ao_leS (me_X12_readProgram n r0 M24 ρ hp25) e9) (fun wx26 e27 => ?_) (fun E28 e27 => ?_)
        · replace h := ao_csL h e27
          exact ih.2.2.2.1 r0 x1 x2 p25.2.1 p25.2.2 _ h
        · replace h := ao_csR h e27
          by_cases c35 : E28 = "AsOneHouseModel$Broken"
          · subst c35
            replace h := ao_ifT h rfl
            refine cx_catch "AsOneHouseModel$Broken" [] (⟨81, 85, 88, 168⟩ : ExceptionTableEntry) [] rfl (fun z hz => nomatch hz) (by decide) (by decide) lcl_X12_168 (by decide +kernel) (fun a9 => ?_)
            refine ao_astore_n 2 (lo' := [some (.ref (Γ.2.2.2 + r0)), some (.int x1), some (.ref a9)]) dX12_program_88 rfl (Nat.le_of_ble_eq_true rfl) rfl ?_
            refine ao_aload_n 0 dX12_program_89 rfl rfl ?_
            refine ao_aload_n 0 dX12_program_90 rfl rfl ?_
            obtain ⟨hk29, h⟩ := ao_some h
            refine an_getI r0 12 2 (q := (RX12, TX12, 83)) dX12_program_91 rfl hk29 (Nat.le_of_ble_eq_true rfl) rfl lf_X12_7 ?_
            refine ao_aload_n 0 dX12_program_94 rfl rfl ?_
            refine an_getI r0 12 7 (q := (RX12, TX12, 83)) dX12_program_95 rfl hk29 (Nat.le_of_ble_eq_true rfl) rfl lf_X12_14 ?_
            refine ao_icmp_ge 108 dX12_program_98 (by decide) (fun c30 => ?_) (fun c30 => ?_)
            · replace h := ao_ifT h c30
              refine ao_aload_n 0 dX12_program_108 rfl rfl ?_
              refine an_getI r0 12 7 (q := (RX12, TX12, 83)) dX12_program_109 rfl hk29 (Nat.le_of_ble_eq_true rfl) rfl lf_X12_14 ?_
              refine an_putI r0 12 3 (q := (RX12, TX12, 83)) dX12_program_112 rfl hk29 (Nat.le_of_ble_eq_true rfl) lf_X12_171 rfl rfl rfl rfl (fun M31 hM31 => ?_)
              replace h := ao_letD h hM31
              refine ao_aload_n 0 dX12_program_115 rfl rfl ?_
              refine ao_iconst (v := 3) dX12_program_116 (by decide) ?_
              refine an_putI r0 12 0 (q := (RX12, TX12, 83)) dX12_program_117 rfl hk29 (Nat.le_of_ble_eq_true rfl) lf_X12_1 rfl rfl rfl rfl (fun M32 hM32 => ?_)
              replace h := ao_letD h hM32
              refine ao_iconst (v := 0) dX12_program_120 (by decide) ?_
              cases h
              exact ao_ireturn dX12_program_121 rfl rfl ⟨rfl, rfl⟩
            · replace h := ao_ifF h c30
              refine ao_aload_n 0 dX12_program_101 rfl rfl ?_
              refine an_getI r0 12 2 (q := (RX12, TX12, 83)) dX12_program_102 rfl hk29 (Nat.le_of_ble_eq_true rfl) rfl lf_X12_7 ?_
              refine ao_goto 112 dX12_program_105 (by decide) ?_
              refine an_putI r0 12 3 (q := (RX12, TX12, 83)) dX12_program_112 rfl hk29 (Nat.le_of_ble_eq_true rfl) lf_X12_171 rfl rfl rfl rfl (fun M33 hM33 => ?_)
              replace h := ao_letD h hM33
              refine ao_aload_n 0 dX12_program_115 rfl rfl ?_
              refine ao_iconst (v := 3) dX12_program_116 (by decide) ?_
              refine an_putI r0 12 0 (q := (RX12, TX12, 83)) dX12_program_117 rfl hk29 (Nat.le_of_ble_eq_true rfl) lf_X12_1 rfl rfl rfl rfl (fun M34 hM34 => ?_)
              replace h := ao_letD h hM34
              refine ao_iconst (v := 0) dX12_program_120 (by decide) ?_
              cases h
              exact ao_ireturn dX12_program_121 rfl rfl ⟨rfl, rfl⟩
          · replace h := ao_ifF h c35
            exact ao_no h
      · replace h := ao_ifF h c22
        refine ao_iconst (v := 0) dX12_program_74 (by decide) ?_
        cases h
        exact ao_ireturn dX12_program_75 rfl rfl ⟨rfl, rfl⟩
    · intro r0 x1 x2 M ρ y h
      replace h := ao_ifF h (by decide)
      replace h := ao_ifF h (by decide)
      replace h := ao_ifF h (by decide)
      replace h := ao_ifT h rfl
      refine ao_goto 122 dX12_program_85 (by decide) ?_
      refine ao_iconst (v := 0) dX12_program_122 (by decide) ?_
      refine ao_istore_n 2 (lo' := [some (.ref (Γ.2.2.2 + r0)), some (.int x1), some (.int (0 : Int32))]) dX12_program_123 rfl (Nat.le_of_ble_eq_true rfl) rfl ?_
      exact ih.2.2.2.2 r0 x1 (0 : Int32) M ρ _ h
    · intro r0 x1 x2 M ρ y h
      replace h := ao_ifF h (by decide)
      replace h := ao_ifF h (by decide)
      replace h := ao_ifF h (by decide)
      replace h := ao_ifF h (by decide)
      replace h := ao_ifT h rfl
      refine ao_iload_n 2 dX12_program_124 rfl rfl ?_
      refine ao_iconst (v := 3) dX12_program_125 (by decide) ?_
      refine ao_aload_n 0 dX12_program_126 rfl rfl ?_
      obtain ⟨hk36, h⟩ := ao_some h
      refine an_getI r0 12 13 (q := (RX12, TX12, 83)) dX12_program_127 rfl hk36 (Nat.le_of_ble_eq_true rfl) rfl lf_X12_78 ?_
      refine ao_imul dX12_program_130 ?_
      refine ao_icmp_ge 160 dX12_program_131 (by decide) (fun c37 => ?_) (fun c37 => ?_)
      · replace h := ao_ifT h c37
        refine ao_aload_n 0 dX12_program_160 rfl rfl ?_
        obtain ⟨j38, hj38, h⟩ := ao_bind h
        refine an_getR r0 12 29 (q := (RX12, TX12, 83)) dX12_program_161 rfl hk36 (Nat.le_of_ble_eq_true rfl) rfl lf_X12_187 hj38 ?_
        refine ao_iload_n 1 dX12_program_164 rfl rfl ?_
        refine ao_iconst (v := 1) dX12_program_165 (by decide) ?_
        obtain ⟨hk39, h⟩ := ao_some h
        obtain ⟨hb40, h⟩ := ao_some h
        refine an_iastore j38 dX12_program_166 hk39 hb40 (fun M41 hM41 => ?_)
        replace h := ao_letD h hM41
        refine ao_aload_n 0 dX12_program_167 rfl rfl ?_
        refine ao_iload_n 1 dX12_program_168 rfl rfl ?_
        obtain ⟨p42, hp42, h⟩ := ao_bind h
        refine an_callVv r0 12 (q := (RX12, TX12, 83)) [.int x1] (aX12_reset (d - 1) (by omega) _ r0 x1 M41 ρ hp42) dX12_program_169 lc_X12_350 li_X12_reset ls_X12_reset rfl hk36 rfl rfl (Nat.le_of_ble_eq_true rfl) (ao_hR (by omega) (by decide)) ?_
        refine ao_aload_n 0 dX12_program_172 rfl rfl ?_
        refine an_getI r0 12 15 (q := (RX12, TX12, 83)) dX12_program_173 rfl hk36 (Nat.le_of_ble_eq_true rfl) rfl lf_X12_113 ?_
        cases h
        exact ao_ireturn dX12_program_176 rfl rfl ⟨rfl, rfl⟩
      · replace h := ao_ifF h c37
        refine ao_aload_n 0 dX12_program_134 rfl rfl ?_
        obtain ⟨j43, hj43, h⟩ := ao_bind h
        refine an_getR r0 12 28 (q := (RX12, TX12, 83)) dX12_program_135 rfl hk36 (Nat.le_of_ble_eq_true rfl) rfl lf_X12_184 hj43 ?_
        refine ao_iload_n 1 dX12_program_138 rfl rfl ?_
        refine ao_iconst (v := 3) dX12_program_139 (by decide) ?_
        refine ao_imul dX12_program_140 ?_
        refine ao_sipush (v := 6000) dX12_program_141 (by decide) ?_
        refine ao_imul dX12_program_144 ?_
        refine ao_iload_n 2 dX12_program_145 rfl rfl ?_
        refine ao_iadd dX12_program_146 ?_
        refine ao_aload_n 0 dX12_program_147 rfl rfl ?_
        obtain ⟨j44, hj44, h⟩ := ao_bind h
        refine an_getR r0 12 12 (q := (RX12, TX12, 83)) dX12_program_148 rfl hk36 (Nat.le_of_ble_eq_true rfl) rfl lf_X12_74 hj44 ?_
        refine ao_iload_n 2 dX12_program_151 rfl rfl ?_
        obtain ⟨hk45, h⟩ := ao_some h
        obtain ⟨hb46, h⟩ := ao_some h
        refine an_iaload j44 dX12_program_152 hk45 hb46 ?_
        obtain ⟨hk47, h⟩ := ao_some h
        obtain ⟨hb48, h⟩ := ao_some h
        refine an_iastore j43 dX12_program_153 hk47 hb48 (fun M49 hM49 => ?_)
        replace h := ao_letD h hM49
        obtain ⟨v50, hv50⟩ : ∃ z : Int32, z = x2 + (1 : Int32) := ⟨_, rfl⟩
        replace h := ao_letD h hv50
        refine ao_iinc 2 (v := v50) (lo' := [some (.ref (Γ.2.2.2 + r0)), some (.int x1), some (.int v50)]) dX12_program_154 rfl (by rw [hv50]; rfl) (Nat.le_of_ble_eq_true rfl) rfl ?_
        refine ao_goto 124 dX12_program_157 (by decide) ?_
        exact ih.2.2.2.2 r0 x1 v50 M49 ρ _ h
theorem me_X12_program (n : Nat) (r0 : Nat) (x1 : Int32) (M : ao_M) (ρ : ao_H) {y : Int32 × ao_S} (h : gX12_program n r0 x1 M ρ = some y) : ao_le ρ y.2.2 := (mX12_program n).1 r0 x1 M ρ y h
set_option maxRecDepth 100000 in
set_option maxHeartbeats 4000000 in
theorem aX12_program {Γ : ao_C} (d : Nat) (hd : 140 ≤ d) (n : Nat) (r0 : Nat) (x1 : Int32) (M : ao_M) (ρ : ao_H) {y : Int32 × ao_S} (h : gX12_program n r0 x1 M ρ = some y) : ao_A Γ uX12_program d (ao_dc ρ y.2.2) (ao_ds ρ y.2.2) [.ref (Γ.2.2.2 + r0), .int x1] (M, ρ) (ao_QI y) := by
  refine ao_ofH (by decide) rfl (ao_cat1 (Nat.le_of_ble_eq_true rfl)) (Nat.le_of_ble_eq_true rfl) ?_
  show ao_W Γ uX12_program (ao_rm d (ao_dc ρ y.2.2) (ao_ds ρ y.2.2)) (ao_Q Γ (ao_QI y) (ao_dc ρ y.2.2) (ao_ds ρ y.2.2)) (ao_dc ρ y.2.2) (ao_ds ρ y.2.2) 0 [some (.ref (Γ.2.2.2 + r0)), some (.int x1), none] [] (M, ρ)
  exact (wX12_program d hd _ _ n).1 r0 x1 M ρ y h

abbrev uL_start : ao_Mi := (yL_start, cL_start, 3, (some .int), [(0, 5, 8, 19)])
def fL_start : Nat → Nat → Nat → Int32 →  ao_M → ao_H → Option (Int32 × ao_S)
  | 0, _, _, _, _, _ => none
  | n + 1, pc, r0, x1, M, ρ =>
    if pc = 0 then
      if ρ.2.1 r0 = 20 then
      (gX10_start n r0 x1 M ρ).bind fun p2 =>
      ao_cs p2.1 (fun wx3 => fL_start n 5 r0 x1 p2.2.1 p2.2.2) fun E5 =>
        if E5 = "java/lang/IllegalArgumentException" then
          some ((1 : Int32), p2.2.1, p2.2.2)
        else
        none
      else none
    else if pc = 5 then
      some ((0 : Int32), M, ρ)
    else none
def gL_start (n : Nat) (r0 : Nat) (x1 : Int32) (M : ao_M) (ρ : ao_H) : Option (Int32 × ao_S) := fL_start n 0 r0 x1 M ρ
set_option maxRecDepth 100000 in
set_option maxHeartbeats 4000000 in
theorem mL_start : ∀ n : Nat, (∀ (r0 : Nat) (x1 : Int32) (M : ao_M) (ρ : ao_H) (y : Int32 × ao_S), fL_start n 0 r0 x1 M ρ = some y → ao_le ρ y.2.2) ∧ (∀ (r0 : Nat) (x1 : Int32) (M : ao_M) (ρ : ao_H) (y : Int32 × ao_S), fL_start n 5 r0 x1 M ρ = some y → ao_le ρ y.2.2) := by
  intro n
  induction n with
  | zero => exact ⟨fun _ _ _ _ _ h => ao_no h, fun _ _ _ _ _ h => ao_no h⟩
  | succ n ih =>
    refine ⟨?_, ?_⟩
    · intro r0 x1 M ρ y h
      replace h := ao_ifT h rfl
      obtain ⟨-, h⟩ := ao_some h
      obtain ⟨p2, hp2, h⟩ := ao_bind h
      refine ao_le_tr (me_X10_start n r0 x1 M ρ hp2) ?_
      refine ao_csM h (fun wx3 h => ?_) (fun _ h => ?_)
      · exact ih.2 r0 x1 p2.2.1 p2.2.2 _ h
      · rcases ao_ifC h with h | h
        · cases h
          exact ao_le_rf _
        · exact ao_no h
    · intro r0 x1 M ρ y h
      replace h := ao_ifF h (by decide)
      replace h := ao_ifT h rfl
      cases h
      exact ao_le_rf _
set_option maxRecDepth 100000 in
set_option maxHeartbeats 4000000 in
theorem wL_start {Γ : ao_C} (d : Nat) (hd : 9 ≤ d) (MC MS : Nat) : ∀ n : Nat, (∀ (r0 : Nat) (x1 : Int32) (M : ao_M) (ρ : ao_H) (y : Int32 × ao_S), fL_start n 0 r0 x1 M ρ = some y → ao_W Γ uL_start (ao_rm d MC MS) (ao_Q Γ (ao_QI y) MC MS) (ao_dc ρ y.2.2) (ao_ds ρ y.2.2) 0 [some (.ref (Γ.2.2.2 + r0)), some (.int x1), none] [] (M, ρ)) ∧ (∀ (r0 : Nat) (x1 : Int32) (M : ao_M) (ρ : ao_H) (y : Int32 × ao_S), fL_start n 5 r0 x1 M ρ = some y → ao_W Γ uL_start (ao_rm d MC MS) (ao_Q Γ (ao_QI y) MC MS) (ao_dc ρ y.2.2) (ao_ds ρ y.2.2) 5 [some (.ref (Γ.2.2.2 + r0)), some (.int x1), none] [] (M, ρ)) := by
  intro n
  induction n with
  | zero => exact ⟨fun _ _ _ _ _ h => ao_no h, fun _ _ _ _ _ h => ao_no h⟩
  | succ n ih =>
    refine ⟨?_, ?_⟩
    · intro r0 x1 M ρ y h
      replace h := ao_ifT h rfl
      refine ao_aload_n 0 dL_start_0 rfl rfl ?_
      refine ao_iload_n 1 dL_start_1 rfl rfl ?_
      obtain ⟨hk1, h⟩ := ao_some h
      obtain ⟨p2, hp2, h⟩ := ao_bind h
      have e9 : ao_le p2.2.2 y.2.2 := by
        refine ao_csM h (fun wx3 h => (mL_start n).2 r0 x1 p2.2.1 p2.2.2 _ h) (fun _ h => ?_)
        rcases ao_ifC h with h | h
        · cases h
          exact ao_le_rf _
        · exact ao_no h
      refine cx_callVw r0 10 (q := (RX10, TX10, 6)) [.int x1] (aX10_start (d - 1) (by omega) n r0 x1 M ρ hp2) dL_start_2 lc_L_21 li_X10_start ls_X10_start rfl hk1 rfl rfl (Nat.le_of_ble_eq_true rfl) (ao_hR (by omega) (by decide)) (ao_leC (me_X10_start n r0 x1 M ρ hp2) e9) (ao_leS (me_X10_start n r0 x1 M ρ hp2) e9) (fun wx3 e4 => ?_) (fun E5 e4 => ?_)
      · replace h := ao_csL h e4
        exact ih.2 r0 x1 p2.2.1 p2.2.2 _ h
      · replace h := ao_csR h e4
        by_cases c6 : E5 = "java/lang/IllegalArgumentException"
        · subst c6
          replace h := ao_ifT h rfl
          refine cx_catch "java/lang/IllegalArgumentException" [] (⟨0, 5, 8, 19⟩ : ExceptionTableEntry) [] rfl (fun z hz => nomatch hz) (by decide) (by decide) lcl_L_19 (by decide +kernel) (fun a9 => ?_)
          refine ao_astore_n 2 (lo' := [some (.ref (Γ.2.2.2 + r0)), some (.int x1), some (.ref a9)]) dL_start_8 rfl (Nat.le_of_ble_eq_true rfl) rfl ?_
          refine ao_iconst (v := 1) dL_start_9 (by decide) ?_
          cases h
          exact ao_ireturn dL_start_10 rfl rfl ⟨rfl, rfl⟩
        · replace h := ao_ifF h c6
          exact ao_no h
    · intro r0 x1 M ρ y h
      replace h := ao_ifF h (by decide)
      replace h := ao_ifT h rfl
      refine ao_goto 11 dL_start_5 (by decide) ?_
      refine ao_iconst (v := 0) dL_start_11 (by decide) ?_
      cases h
      exact ao_ireturn dL_start_12 rfl rfl ⟨rfl, rfl⟩
theorem me_L_start (n : Nat) (r0 : Nat) (x1 : Int32) (M : ao_M) (ρ : ao_H) {y : Int32 × ao_S} (h : gL_start n r0 x1 M ρ = some y) : ao_le ρ y.2.2 := (mL_start n).1 r0 x1 M ρ y h
set_option maxRecDepth 100000 in
set_option maxHeartbeats 4000000 in
theorem aL_start {Γ : ao_C} (d : Nat) (hd : 9 ≤ d) (n : Nat) (r0 : Nat) (x1 : Int32) (M : ao_M) (ρ : ao_H) {y : Int32 × ao_S} (h : gL_start n r0 x1 M ρ = some y) : ao_A Γ uL_start d (ao_dc ρ y.2.2) (ao_ds ρ y.2.2) [.ref (Γ.2.2.2 + r0), .int x1] (M, ρ) (ao_QI y) := by
  refine ao_ofH (by decide) rfl (ao_cat1 (Nat.le_of_ble_eq_true rfl)) (Nat.le_of_ble_eq_true rfl) ?_
  show ao_W Γ uL_start (ao_rm d (ao_dc ρ y.2.2) (ao_ds ρ y.2.2)) (ao_Q Γ (ao_QI y) (ao_dc ρ y.2.2) (ao_ds ρ y.2.2)) (ao_dc ρ y.2.2) (ao_ds ρ y.2.2) 0 [some (.ref (Γ.2.2.2 + r0)), some (.int x1), none] [] (M, ρ)
  exact (wL_start d hd _ _ n).1 r0 x1 M ρ y h

abbrev uX4_statements : ao_Mi := (yX4_statements, cX4_statements, 4, (some .boolean), [])
abbrev uX4_block : ao_Mi := (yX4_block, cX4_block, 3, (some .boolean), [])
abbrev uX4_statement : ao_Mi := (yX4_statement, cX4_statement, 3, (some .boolean), [])
abbrev uX4_ifStatement : ao_Mi := (yX4_ifStatement, cX4_ifStatement, 5, (some .boolean), [])
abbrev uX4_whileStatement : ao_Mi := (yX4_whileStatement, cX4_whileStatement, 5, (some .boolean), [])
abbrev uX4_levelStatement : ao_Mi := (yX4_levelStatement, cX4_levelStatement, 5, (some .boolean), [])
abbrev uX4_tryStatement : ao_Mi := (yX4_tryStatement, cX4_tryStatement, 5, (some .boolean), [])
def fGS : Nat → Nat → Nat → Nat → Int32 → Int32 → Int32 → Int32 →  ao_M → ao_H → Option (Int32 × ao_M)
  | 0, _, _, _, _, _, _, _, _, _ => none
  | n + 1, e, pc, r0, x1, x2, x3, x4, M, ρ =>
    if pc = 0 then
      fGS n e 2 r0 x1 x2 (0 : Int32) 0 M ρ
    else if pc = 2 then
      if (1000 : Int32) < x3 then
        if ρ.2.1 r0 = 14 then
        (gX4_broken r0 M ρ).bind fun p3 =>
        if p3.1 = 0 ∨ p3.1 = 1 then
        some (p3.1, p3.2)
        else none
        else none
      else
        if ρ.2.1 r0 = 14 then
        (ρ.1 r0 0).bind fun j6 =>
        if ρ.2.1 j6 = 19 then
        if (M j6 8) = 0 then
          some ((1 : Int32), M)
        else
          if (M j6 8) = (18 : Int32) then
            some ((1 : Int32), M)
          else
            if 0 < e then
            (fGS n (e - 1) 2000 r0 x1 x2 0 0 M ρ).bind fun p10 =>
            if p10.1 = 0 then
              some ((0 : Int32), p10.2)
            else
              ao_let (x3 + (1 : Int32)) fun v13 =>
              fGS n e 2 r0 x1 x2 v13 0 p10.2 ρ
            else none
        else none
        else none
    else if pc = 1000 then
      if ρ.2.1 r0 = 14 then
      (gX4_expectNested n r0 (17 : Int32) x2 M ρ).bind fun p2 =>
      if p2.1 = 0 then
        some ((0 : Int32), p2.2)
      else
        if 0 < e then
        (fGS n (e - 1) 0 r0 x1 (x2 + (1 : Int32)) 0 0 p2.2 ρ).bind fun p4 =>
        if p4.1 = 0 then
          some ((0 : Int32), p4.2)
        else
          (gX4_expect n r0 (18 : Int32) p4.2 ρ).bind fun p7 =>
          if p7.1 = 0 then
            some ((0 : Int32), p7.2)
          else
            some ((1 : Int32), p7.2)
        else none
      else none
    else if pc = 2000 then
      if ρ.2.1 r0 = 14 then
      (ρ.1 r0 1).bind fun j2 =>
      if ρ.2.1 j2 = 11 then
      if (M j2 5) < (300 : Int32) then
        ao_let (ao_u M j2 5 ((M j2 5) + (1 : Int32))) fun M5 =>
        (ρ.1 r0 0).bind fun j6 =>
        if ρ.2.1 j6 = 19 then
        ao_let (M5 j6 8) fun v8 =>
        if v8 = (2 : Int32) then
          (gX4_assignment n r0 (11 : Int32) x2 M5 ρ).bind fun p10 =>
          if p10.1 = 0 ∨ p10.1 = 1 then
          some (p10.1, p10.2)
          else none
        else
          if v8 = (3 : Int32) then
            (gX4_assignment n r0 (10 : Int32) x2 M5 ρ).bind fun p13 =>
            if p13.1 = 0 ∨ p13.1 = 1 then
            some (p13.1, p13.2)
            else none
          else
            if v8 = (5 : Int32) then
              if 0 < e then
              (fGS n (e - 1) 3000 r0 x1 x2 0 0 M5 ρ).bind fun p16 =>
              if p16.1 = 0 ∨ p16.1 = 1 then
              some (p16.1, p16.2)
              else none
              else none
            else
              if v8 = (7 : Int32) then
                if 0 < e then
                (fGS n (e - 1) 4000 r0 x1 x2 0 0 M5 ρ).bind fun p20 =>
                if p20.1 = 0 ∨ p20.1 = 1 then
                some (p20.1, p20.2)
                else none
                else none
              else
                if v8 = (8 : Int32) then
                  (gX4_valueStatement n r0 (15 : Int32) x2 M5 ρ).bind fun p24 =>
                  if p24.1 = 0 ∨ p24.1 = 1 then
                  some (p24.1, p24.2)
                  else none
                else
                  if v8 = (9 : Int32) then
                    if 0 < e then
                    (fGS n (e - 1) 5000 r0 x1 x2 0 0 M5 ρ).bind fun p27 =>
                    if p27.1 = 0 ∨ p27.1 = 1 then
                    some (p27.1, p27.2)
                    else none
                    else none
                  else
                    if v8 = (10 : Int32) then
                      if 0 < e then
                      (fGS n (e - 1) 5000 r0 (0 : Int32) x2 0 0 M5 ρ).bind fun p31 =>
                      if p31.1 = 0 ∨ p31.1 = 1 then
                      some (p31.1, p31.2)
                      else none
                      else none
                    else
                      if v8 = (12 : Int32) then
                        (gX4_bareStatement n r0 (18 : Int32) x1 M5 ρ).bind fun p35 =>
                        if p35.1 = 0 ∨ p35.1 = 1 then
                        some (p35.1, p35.2)
                        else none
                      else
                        if v8 = (13 : Int32) then
                          (gX4_bareStatement n r0 (19 : Int32) x1 M5 ρ).bind fun p38 =>
                          if p38.1 = 0 ∨ p38.1 = 1 then
                          some (p38.1, p38.2)
                          else none
                        else
                          if v8 = (14 : Int32) then
                            (gX4_valueStatement n r0 (20 : Int32) x2 M5 ρ).bind fun p41 =>
                            if p41.1 = 0 ∨ p41.1 = 1 then
                            some (p41.1, p41.2)
                            else none
                          else
                            if v8 = (15 : Int32) then
                              if 0 < e then
                              (fGS n (e - 1) 6000 r0 x1 x2 0 0 M5 ρ).bind fun p44 =>
                              if p44.1 = 0 ∨ p44.1 = 1 then
                              some (p44.1, p44.2)
                              else none
                              else none
                            else
                              fGS n e 2191 r0 x1 x2 0 0 M5 ρ
        else none
      else
        (gX4_broken r0 M ρ).bind fun p50 =>
        if p50.1 = 0 ∨ p50.1 = 1 then
        some (p50.1, p50.2)
        else none
      else none
      else none
    else if pc = 2191 then
      if ρ.2.1 r0 = 14 then
      (gX4_broken r0 M ρ).bind fun p53 =>
      if p53.1 = 0 ∨ p53.1 = 1 then
      some (p53.1, p53.2)
      else none
      else none
    else if pc = 3000 then
      if ρ.2.1 r0 = 14 then
      (gX4_condition n r0 x2 M ρ).bind fun p2 =>
      if p2.1 = 0 then
        some ((0 : Int32), p2.2)
      else
        (ρ.1 r0 1).bind fun j4 =>
        if ρ.2.1 j4 = 11 then
        (gX1_add j4 (13 : Int32) (0 : Int32) p2.2 ρ).bind fun p6 =>
        ao_let p6.1 fun v7 =>
        if 0 < e then
        (fGS n (e - 1) 1000 r0 x1 x2 0 0 p6.2 ρ).bind fun p8 =>
        if p8.1 = 0 then
          some ((0 : Int32), p8.2)
        else
          (ρ.1 r0 0).bind fun j11 =>
          if ρ.2.1 j11 = 19 then
          if (p8.2 j11 8) = (6 : Int32) then
            (gX9_advance n j11 p8.2 ρ).bind fun p14 =>
            (gX1_add j4 (12 : Int32) (0 : Int32) p14 ρ).bind fun p15 =>
            ao_let p15.1 fun v16 =>
            (gX1_setFirst j4 v7 (p15.2 j4 4) p15.2 ρ).bind fun p17 =>
            (fGS n (e - 1) 1000 r0 x1 x2 0 0 p17 ρ).bind fun p18 =>
            if p18.1 = 0 then
              some ((0 : Int32), p18.2)
            else
              (gX1_setFirst j4 v16 (p18.2 j4 4) p18.2 ρ).bind fun p20 =>
              some ((1 : Int32), p20)
          else
            (gX1_setFirst j4 v7 (p8.2 j4 4) p8.2 ρ).bind fun p21 =>
            some ((1 : Int32), p21)
          else none
        else none
        else none
      else none
    else if pc = 4000 then
      if ρ.2.1 r0 = 14 then
      (ρ.1 r0 1).bind fun j2 =>
      if ρ.2.1 j2 = 11 then
      ao_let (M j2 4) fun v4 =>
      (gX4_condition n r0 x2 M ρ).bind fun p5 =>
      if p5.1 = 0 then
        some ((0 : Int32), p5.2)
      else
        (gX1_add j2 (14 : Int32) (0 : Int32) p5.2 ρ).bind fun p7 =>
        ao_let p7.1 fun v8 =>
        if 0 < e then
        (fGS n (e - 1) 1000 r0 x1 x2 0 0 p7.2 ρ).bind fun p9 =>
        if p9.1 = 0 then
          some ((0 : Int32), p9.2)
        else
          (gX1_add j2 (12 : Int32) v4 p9.2 ρ).bind fun p12 =>
          (gX1_setFirst j2 v8 (p12.2 j2 4) p12.2 ρ).bind fun p13 =>
          some ((1 : Int32), p13)
        else none
      else none
      else none
    else if pc = 5000 then
      if ρ.2.1 r0 = 14 then
      (ρ.1 r0 0).bind fun j2 =>
      if ρ.2.1 j2 = 19 then
      (gX9_advance n j2 M ρ).bind fun p4 =>
      (ρ.1 r0 1).bind fun j5 =>
      if ρ.2.1 j5 = 11 then
      (gX1_add j5 (16 : Int32) (-1 : Int32) p4 ρ).bind fun p7 =>
      ao_let p7.1 fun v8 =>
      if 0 < e then
      (fGS n (e - 1) 1000 r0 (1 : Int32) x2 0 0 p7.2 ρ).bind fun p9 =>
      if p9.1 = 0 then
        some ((0 : Int32), p9.2)
      else
        (gX1_add j5 (17 : Int32) (0 : Int32) p9.2 ρ).bind fun p12 =>
        ao_let p12.1 fun v13 =>
        if (p12.2 j2 8) = (11 : Int32) then
          (gX9_advance n j2 p12.2 ρ).bind fun p18 =>
          (gX1_setFirst j5 v8 (p18 j5 4) p18 ρ).bind fun p19 =>
          (fGS n (e - 1) 1000 r0 (1 : Int32) x2 0 0 p19 ρ).bind fun p20 =>
          if p20.1 = 0 then
            some ((0 : Int32), p20.2)
          else
            (gX1_add j5 (17 : Int32) (0 : Int32) p20.2 ρ).bind fun p22 =>
            fGS n e 5123 r0 x1 x2 v8 v13 p22.2 ρ
        else
          if x1 = 0 then
            fGS n e 5123 r0 x1 x2 v8 v13 p12.2 ρ
          else
            (gX1_setOp j5 v8 (0 : Int32) p12.2 ρ).bind fun p16 =>
            (gX1_setOp j5 v13 (0 : Int32) p16 ρ).bind fun p17 =>
            fGS n e 5123 r0 x1 x2 v8 v13 p17 ρ
      else none
      else none
      else none
      else none
    else if pc = 5123 then
      if ρ.2.1 r0 = 14 then
      (ρ.1 r0 1).bind fun j24 =>
      if ρ.2.1 j24 = 11 then
      (gX1_setSecond j24 x3 (M j24 4) M ρ).bind fun p26 =>
      some ((1 : Int32), p26)
      else none
      else none
    else if pc = 6000 then
      if ρ.2.1 r0 = 14 then
      (ρ.1 r0 0).bind fun j2 =>
      if ρ.2.1 j2 = 19 then
      (gX9_advance n j2 M ρ).bind fun p4 =>
      (ρ.1 r0 1).bind fun j5 =>
      if ρ.2.1 j5 = 11 then
      (gX1_add j5 (21 : Int32) (0 : Int32) p4 ρ).bind fun p7 =>
      ao_let p7.1 fun v8 =>
      if 0 < e then
      (fGS n (e - 1) 1000 r0 x1 x2 0 0 p7.2 ρ).bind fun p9 =>
      if p9.1 = 0 then
        some ((0 : Int32), p9.2)
      else
        (gX1_add j5 (22 : Int32) (0 : Int32) p9.2 ρ).bind fun p12 =>
        ao_let p12.1 fun v13 =>
        (gX4_expect n r0 (16 : Int32) p12.2 ρ).bind fun p14 =>
        if p14.1 = 0 then
          some ((0 : Int32), p14.2)
        else
          (gX1_setFirst j5 v8 (p14.2 j5 4) p14.2 ρ).bind fun p16 =>
          (gX1_setSecond j5 v8 (p16 j2 10) p16 ρ).bind fun p17 =>
          (gX4_expect n r0 (3 : Int32) p17 ρ).bind fun p18 =>
          if p18.1 = 0 then
            some ((0 : Int32), p18.2)
          else
            (fGS n (e - 1) 1000 r0 x1 x2 0 0 p18.2 ρ).bind fun p20 =>
            if p20.1 = 0 then
              some ((0 : Int32), p20.2)
            else
              (gX1_setFirst j5 v13 (p20.2 j5 4) p20.2 ρ).bind fun p22 =>
              some ((1 : Int32), p22)
      else none
      else none
      else none
      else none
    else none
set_option maxRecDepth 100000 in
set_option maxHeartbeats 4000000 in
theorem wGS {Γ : ao_C} {ρ : ao_H} : ∀ n : Nat, (∀ (e d : Nat) (hd : 69 + e ≤ d) (r0 : Nat) (x1 : Int32) (x2 : Int32) (M : ao_M) (y : Int32 × ao_M), fGS n e 0 r0 x1 x2 0 0 M ρ = some y → ao_W Γ uX4_statements (ao_rm d 0 0) (ao_Q Γ (ao_PI ρ y) 0 0) 0 0 0 [some (.ref (Γ.2.2.2 + r0)), some (.int x1), some (.int x2), none] [] (M, ρ)) ∧ (∀ (e d : Nat) (hd : 69 + e ≤ d) (r0 : Nat) (x1 : Int32) (x2 : Int32) (x3 : Int32) (M : ao_M) (y : Int32 × ao_M), fGS n e 2 r0 x1 x2 x3 0 M ρ = some y → ao_W Γ uX4_statements (ao_rm d 0 0) (ao_Q Γ (ao_PI ρ y) 0 0) 0 0 2 [some (.ref (Γ.2.2.2 + r0)), some (.int x1), some (.int x2), some (.int x3)] [] (M, ρ)) ∧ (∀ (e d : Nat) (hd : 69 + e ≤ d) (r0 : Nat) (x1 : Int32) (x2 : Int32) (M : ao_M) (y : Int32 × ao_M), fGS n e 1000 r0 x1 x2 0 0 M ρ = some y → ao_W Γ uX4_block (ao_rm d 0 0) (ao_Q Γ (ao_PI ρ y) 0 0) 0 0 0 [some (.ref (Γ.2.2.2 + r0)), some (.int x1), some (.int x2)] [] (M, ρ)) ∧ (∀ (e d : Nat) (hd : 69 + e ≤ d) (r0 : Nat) (x1 : Int32) (x2 : Int32) (M : ao_M) (y : Int32 × ao_M), fGS n e 2000 r0 x1 x2 0 0 M ρ = some y → ao_W Γ uX4_statement (ao_rm d 0 0) (ao_Q Γ (ao_PI ρ y) 0 0) 0 0 0 [some (.ref (Γ.2.2.2 + r0)), some (.int x1), some (.int x2)] [] (M, ρ)) ∧ (∀ (e d : Nat) (hd : 69 + e ≤ d) (r0 : Nat) (x1 : Int32) (x2 : Int32) (M : ao_M) (y : Int32 × ao_M), fGS n e 2191 r0 x1 x2 0 0 M ρ = some y → ao_W Γ uX4_statement (ao_rm d 0 0) (ao_Q Γ (ao_PI ρ y) 0 0) 0 0 191 [some (.ref (Γ.2.2.2 + r0)), some (.int x1), some (.int x2)] [] (M, ρ)) ∧ (∀ (e d : Nat) (hd : 69 + e ≤ d) (r0 : Nat) (x1 : Int32) (x2 : Int32) (M : ao_M) (y : Int32 × ao_M), fGS n e 3000 r0 x1 x2 0 0 M ρ = some y → ao_W Γ uX4_ifStatement (ao_rm d 0 0) (ao_Q Γ (ao_PI ρ y) 0 0) 0 0 0 [some (.ref (Γ.2.2.2 + r0)), some (.int x1), some (.int x2), none, none] [] (M, ρ)) ∧ (∀ (e d : Nat) (hd : 69 + e ≤ d) (r0 : Nat) (x1 : Int32) (x2 : Int32) (M : ao_M) (y : Int32 × ao_M), fGS n e 4000 r0 x1 x2 0 0 M ρ = some y → ao_W Γ uX4_whileStatement (ao_rm d 0 0) (ao_Q Γ (ao_PI ρ y) 0 0) 0 0 0 [some (.ref (Γ.2.2.2 + r0)), some (.int x1), some (.int x2), none, none] [] (M, ρ)) ∧ (∀ (e d : Nat) (hd : 69 + e ≤ d) (r0 : Nat) (x1 : Int32) (x2 : Int32) (M : ao_M) (y : Int32 × ao_M), fGS n e 5000 r0 x1 x2 0 0 M ρ = some y → ao_W Γ uX4_levelStatement (ao_rm d 0 0) (ao_Q Γ (ao_PI ρ y) 0 0) 0 0 0 [some (.ref (Γ.2.2.2 + r0)), some (.int x1), some (.int x2), none, none] [] (M, ρ)) ∧ (∀ (e d : Nat) (hd : 69 + e ≤ d) (r0 : Nat) (x1 : Int32) (x2 : Int32) (x3 : Int32) (x4 : Int32) (M : ao_M) (y : Int32 × ao_M), fGS n e 5123 r0 x1 x2 x3 x4 M ρ = some y → ao_W Γ uX4_levelStatement (ao_rm d 0 0) (ao_Q Γ (ao_PI ρ y) 0 0) 0 0 123 [some (.ref (Γ.2.2.2 + r0)), some (.int x1), some (.int x2), some (.int x3), some (.int x4)] [] (M, ρ)) ∧ (∀ (e d : Nat) (hd : 69 + e ≤ d) (r0 : Nat) (x1 : Int32) (x2 : Int32) (M : ao_M) (y : Int32 × ao_M), fGS n e 6000 r0 x1 x2 0 0 M ρ = some y → ao_W Γ uX4_tryStatement (ao_rm d 0 0) (ao_Q Γ (ao_PI ρ y) 0 0) 0 0 0 [some (.ref (Γ.2.2.2 + r0)), some (.int x1), some (.int x2), none, none] [] (M, ρ)) := by
  intro n
  induction n with
  | zero => exact ⟨fun _ _ _ _ _ _ _ _ h => ao_no h, fun _ _ _ _ _ _ _ _ _ h => ao_no h, fun _ _ _ _ _ _ _ _ h => ao_no h, fun _ _ _ _ _ _ _ _ h => ao_no h, fun _ _ _ _ _ _ _ _ h => ao_no h, fun _ _ _ _ _ _ _ _ h => ao_no h, fun _ _ _ _ _ _ _ _ h => ao_no h, fun _ _ _ _ _ _ _ _ h => ao_no h, fun _ _ _ _ _ _ _ _ _ _ h => ao_no h, fun _ _ _ _ _ _ _ _ h => ao_no h⟩
  | succ n ih =>
    refine ⟨?_, ?_, ?_, ?_, ?_, ?_, ?_, ?_, ?_, ?_⟩
    · intro e d hd r0 x1 x2 M y h
      replace h := ao_ifT h rfl
      refine ao_iconst (v := 0) dX4_statements_0 (by decide) ?_
      refine ao_istore_n 3 (lo' := [some (.ref (Γ.2.2.2 + r0)), some (.int x1), some (.int x2), some (.int (0 : Int32))]) dX4_statements_1 rfl (Nat.le_of_ble_eq_true rfl) rfl ?_
      exact ih.2.1 e d hd r0 x1 x2 (0 : Int32) M _ h
    · intro e d hd r0 x1 x2 x3 M y h
      replace h := ao_ifF h (by decide)
      replace h := ao_ifT h rfl
      refine ao_iload_n 3 dX4_statements_2 rfl rfl ?_
      refine ao_sipush (v := 1000) dX4_statements_3 (by decide) ?_
      refine ao_icmp_gt 50 dX4_statements_6 (by decide) (fun c1 => ?_) (fun c1 => ?_)
      · replace h := ao_ifT h c1
        refine ao_aload_n 0 dX4_statements_50 rfl rfl ?_
        obtain ⟨hk2, h⟩ := ao_some h
        obtain ⟨p3, hp3, h⟩ := ao_bind h
        refine an_callVi r0 4 (q := (RX4, TX4, 3)) [] (aX4_broken (d - 1) (by omega) r0 M ρ hp3) dX4_statements_51 lc_X4_45 li_X4_broken ls_X4_broken rfl hk2 rfl rfl (Nat.le_of_ble_eq_true rfl) (ao_hR (by omega) (by decide)) ?_
        obtain ⟨hz4, h⟩ := ao_some h
        cases h
        exact ao_ireturn dX4_statements_54 rfl (ao_nb hz4) ⟨rfl, rfl⟩
      · replace h := ao_ifF h c1
        refine ao_aload_n 0 dX4_statements_9 rfl rfl ?_
        obtain ⟨hk5, h⟩ := ao_some h
        obtain ⟨j6, hj6, h⟩ := ao_bind h
        refine an_getR r0 4 0 (q := (RX4, TX4, 3)) dX4_statements_10 rfl hk5 (Nat.le_of_ble_eq_true rfl) rfl lf_X4_12 hj6 ?_
        obtain ⟨hk7, h⟩ := ao_some h
        refine an_getI j6 9 8 (q := (RX9, TX9, 11)) dX4_statements_13 rfl hk7 (Nat.le_of_ble_eq_true rfl) rfl lf_X4_42 ?_
        refine ao_if_eq 31 dX4_statements_16 (by decide) (fun c8 => ?_) (fun c8 => ?_)
        · replace h := ao_ifT h c8
          refine ao_iconst (v := 1) dX4_statements_31 (by decide) ?_
          cases h
          exact ao_ireturn dX4_statements_32 rfl rfl ⟨rfl, rfl⟩
        · replace h := ao_ifF h c8
          refine ao_aload_n 0 dX4_statements_19 rfl rfl ?_
          refine an_getR r0 4 0 (q := (RX4, TX4, 3)) dX4_statements_20 rfl hk5 (Nat.le_of_ble_eq_true rfl) rfl lf_X4_12 hj6 ?_
          refine an_getI j6 9 8 (q := (RX9, TX9, 11)) dX4_statements_23 rfl hk7 (Nat.le_of_ble_eq_true rfl) rfl lf_X4_42 ?_
          refine ao_bipush (v := 18) dX4_statements_26 (by decide) ?_
          refine ao_icmp_ne 33 dX4_statements_28 (by decide) (fun c9 => ?_) (fun c9 => ?_)
          · replace h := ao_ifF h c9
            refine ao_aload_n 0 dX4_statements_33 rfl rfl ?_
            refine ao_iload_n 1 dX4_statements_34 rfl rfl ?_
            refine ao_iload_n 2 dX4_statements_35 rfl rfl ?_
            obtain ⟨he11, h⟩ := ao_some h
            obtain ⟨p10, hp10, h⟩ := ao_bind h
            have hAp10 : ao_A Γ uX4_statement (d - 1) 0 0 [.ref (Γ.2.2.2 + r0), .int x1, .int x2] (M, ρ) (ao_PI ρ p10) := by
              refine ao_of (by decide) (ao_cat1 (Nat.le_of_ble_eq_true rfl)) (Nat.le_of_ble_eq_true rfl) ?_
              show ao_W Γ uX4_statement (ao_rm (d - 1) 0 0) (ao_Q Γ (ao_PI ρ p10) 0 0) 0 0 0 [some (.ref (Γ.2.2.2 + r0)), some (.int x1), some (.int x2)] [] (M, ρ)
              exact ih.2.2.2.1 (e - 1) (d - 1) (by omega) r0 x1 x2 M _ hp10
            refine an_callVi r0 4 (q := (RX4, TX4, 3)) [.int x1, .int x2] hAp10 dX4_statements_36 lc_X4_59 li_X4_statement ls_X4_statement rfl hk5 rfl rfl (Nat.le_of_ble_eq_true rfl) (ao_hR (by omega) (by decide)) ?_
            refine ao_if_ne 44 dX4_statements_39 (by decide) (fun c12 => ?_) (fun c12 => ?_)
            · replace h := ao_ifF h c12
              obtain ⟨v13, hv13⟩ : ∃ z : Int32, z = x3 + (1 : Int32) := ⟨_, rfl⟩
              replace h := ao_letD h hv13
              refine ao_iinc 3 (v := v13) (lo' := [some (.ref (Γ.2.2.2 + r0)), some (.int x1), some (.int x2), some (.int v13)]) dX4_statements_44 rfl (by rw [hv13]; rfl) (Nat.le_of_ble_eq_true rfl) rfl ?_
              refine ao_goto 2 dX4_statements_47 (by decide) ?_
              exact ih.2.1 e d hd r0 x1 x2 v13 p10.2 _ h
            · replace h := ao_ifT h c12
              refine ao_iconst (v := 0) dX4_statements_42 (by decide) ?_
              cases h
              exact ao_ireturn dX4_statements_43 rfl rfl ⟨rfl, rfl⟩
          · replace h := ao_ifT h c9
            refine ao_iconst (v := 1) dX4_statements_31 (by decide) ?_
            cases h
            exact ao_ireturn dX4_statements_32 rfl rfl ⟨rfl, rfl⟩
    · intro e d hd r0 x1 x2 M y h
      replace h := ao_ifF h (by decide)
      replace h := ao_ifF h (by decide)
      replace h := ao_ifT h rfl
      refine ao_aload_n 0 dX4_block_0 rfl rfl ?_
      refine ao_bipush (v := 17) dX4_block_1 (by decide) ?_
      refine ao_iload_n 2 dX4_block_3 rfl rfl ?_
      obtain ⟨hk1, h⟩ := ao_some h
      obtain ⟨p2, hp2, h⟩ := ao_bind h
      refine an_callVi r0 4 (q := (RX4, TX4, 3)) [.int (17 : Int32), .int x2] (aX4_expectNested (d - 1) (by omega) _ r0 (17 : Int32) x2 M ρ hp2) dX4_block_4 lc_X4_62 li_X4_expectNested ls_X4_expectNested rfl hk1 rfl rfl (Nat.le_of_ble_eq_true rfl) (ao_hR (by omega) (by decide)) ?_
      refine ao_if_eq 34 dX4_block_7 (by decide) (fun c3 => ?_) (fun c3 => ?_)
      · replace h := ao_ifT h c3
        refine ao_iconst (v := 0) dX4_block_34 (by decide) ?_
        cases h
        exact ao_ireturn dX4_block_35 rfl rfl ⟨rfl, rfl⟩
      · replace h := ao_ifF h c3
        refine ao_aload_n 0 dX4_block_10 rfl rfl ?_
        refine ao_iload_n 1 dX4_block_11 rfl rfl ?_
        refine ao_iload_n 2 dX4_block_12 rfl rfl ?_
        refine ao_iconst (v := 1) dX4_block_13 (by decide) ?_
        refine ao_iadd dX4_block_14 ?_
        obtain ⟨he5, h⟩ := ao_some h
        obtain ⟨p4, hp4, h⟩ := ao_bind h
        have hAp4 : ao_A Γ uX4_statements (d - 1) 0 0 [.ref (Γ.2.2.2 + r0), .int x1, .int (x2 + (1 : Int32))] (p2.2, ρ) (ao_PI ρ p4) := by
          refine ao_of (by decide) (ao_cat1 (Nat.le_of_ble_eq_true rfl)) (Nat.le_of_ble_eq_true rfl) ?_
          show ao_W Γ uX4_statements (ao_rm (d - 1) 0 0) (ao_Q Γ (ao_PI ρ p4) 0 0) 0 0 0 [some (.ref (Γ.2.2.2 + r0)), some (.int x1), some (.int (x2 + (1 : Int32))), none] [] (p2.2, ρ)
          exact ih.1 (e - 1) (d - 1) (by omega) r0 x1 (x2 + (1 : Int32)) p2.2 _ hp4
        refine an_callVi r0 4 (q := (RX4, TX4, 3)) [.int x1, .int (x2 + (1 : Int32))] hAp4 dX4_block_15 lc_X4_38 li_X4_statements ls_X4_statements rfl hk1 rfl rfl (Nat.le_of_ble_eq_true rfl) (ao_hR (by omega) (by decide)) ?_
        refine ao_if_eq 34 dX4_block_18 (by decide) (fun c6 => ?_) (fun c6 => ?_)
        · replace h := ao_ifT h c6
          refine ao_iconst (v := 0) dX4_block_34 (by decide) ?_
          cases h
          exact ao_ireturn dX4_block_35 rfl rfl ⟨rfl, rfl⟩
        · replace h := ao_ifF h c6
          refine ao_aload_n 0 dX4_block_21 rfl rfl ?_
          refine ao_bipush (v := 18) dX4_block_22 (by decide) ?_
          obtain ⟨p7, hp7, h⟩ := ao_bind h
          refine an_callVi r0 4 (q := (RX4, TX4, 3)) [.int (18 : Int32)] (aX4_expect (d - 1) (by omega) _ r0 (18 : Int32) p4.2 ρ hp7) dX4_block_24 lc_X4_55 li_X4_expect ls_X4_expect rfl hk1 rfl rfl (Nat.le_of_ble_eq_true rfl) (ao_hR (by omega) (by decide)) ?_
          refine ao_if_eq 34 dX4_block_27 (by decide) (fun c8 => ?_) (fun c8 => ?_)
          · replace h := ao_ifT h c8
            refine ao_iconst (v := 0) dX4_block_34 (by decide) ?_
            cases h
            exact ao_ireturn dX4_block_35 rfl rfl ⟨rfl, rfl⟩
          · replace h := ao_ifF h c8
            refine ao_iconst (v := 1) dX4_block_30 (by decide) ?_
            refine ao_goto 35 dX4_block_31 (by decide) ?_
            cases h
            exact ao_ireturn dX4_block_35 rfl rfl ⟨rfl, rfl⟩
    · intro e d hd r0 x1 x2 M y h
      replace h := ao_ifF h (by decide)
      replace h := ao_ifF h (by decide)
      replace h := ao_ifF h (by decide)
      replace h := ao_ifT h rfl
      refine ao_aload_n 0 dX4_statement_0 rfl rfl ?_
      obtain ⟨hk1, h⟩ := ao_some h
      obtain ⟨j2, hj2, h⟩ := ao_bind h
      refine an_getR r0 4 1 (q := (RX4, TX4, 3)) dX4_statement_1 rfl hk1 (Nat.le_of_ble_eq_true rfl) rfl lf_X4_23 hj2 ?_
      obtain ⟨hk3, h⟩ := ao_some h
      refine an_getI j2 1 5 (q := (RX1, TX1, 6)) dX4_statement_4 rfl hk3 (Nat.le_of_ble_eq_true rfl) rfl lf_X4_66 ?_
      refine ao_sipush (v := 300) dX4_statement_7 (by decide) ?_
      refine ao_icmp_lt 18 dX4_statement_10 (by decide) (fun c4 => ?_) (fun c4 => ?_)
      · replace h := ao_ifT h c4
        refine ao_aload_n 0 dX4_statement_18 rfl rfl ?_
        refine an_getR r0 4 1 (q := (RX4, TX4, 3)) dX4_statement_19 rfl hk1 (Nat.le_of_ble_eq_true rfl) rfl lf_X4_23 hj2 ?_
        refine ao_dup dX4_statement_22 rfl ?_
        refine an_getI j2 1 5 (q := (RX1, TX1, 6)) dX4_statement_23 rfl hk3 (Nat.le_of_ble_eq_true rfl) rfl lf_X4_66 ?_
        refine ao_iconst (v := 1) dX4_statement_26 (by decide) ?_
        refine ao_iadd dX4_statement_27 ?_
        refine an_putI j2 1 5 (q := (RX1, TX1, 6)) dX4_statement_28 rfl hk3 (Nat.le_of_ble_eq_true rfl) lf_X4_66 rfl rfl rfl rfl (fun M5 hM5 => ?_)
        replace h := ao_letD h hM5
        refine ao_aload_n 0 dX4_statement_31 rfl rfl ?_
        obtain ⟨j6, hj6, h⟩ := ao_bind h
        refine an_getR r0 4 0 (q := (RX4, TX4, 3)) dX4_statement_32 rfl hk1 (Nat.le_of_ble_eq_true rfl) rfl lf_X4_12 hj6 ?_
        obtain ⟨hk7, h⟩ := ao_some h
        refine an_getI j6 9 8 (q := (RX9, TX9, 11)) dX4_statement_35 rfl hk7 (Nat.le_of_ble_eq_true rfl) rfl lf_X4_42 ?_
        refine an_topi (fun v8 hv8 => ?_)
        replace h := ao_letD h hv8
        by_cases c9 : v8 = (2 : Int32)
        · replace h := ao_ifT h c9
          refine ao_tableIn 108 dX4_statement_38 (by rw [c9]; decide) (by rw [c9]; decide) (by rw [c9]; rfl) (by decide) ?_
          refine ao_aload_n 0 dX4_statement_108 rfl rfl ?_
          refine ao_bipush (v := 11) dX4_statement_109 (by decide) ?_
          refine ao_iload_n 2 dX4_statement_111 rfl rfl ?_
          obtain ⟨p10, hp10, h⟩ := ao_bind h
          refine an_callVi r0 4 (q := (RX4, TX4, 3)) [.int (11 : Int32), .int x2] (aX4_assignment (d - 1) (by omega) _ r0 (11 : Int32) x2 M5 ρ hp10) dX4_statement_112 lc_X4_68 li_X4_assignment ls_X4_assignment rfl hk1 rfl rfl (Nat.le_of_ble_eq_true rfl) (ao_hR (by omega) (by decide)) ?_
          obtain ⟨hz11, h⟩ := ao_some h
          cases h
          exact ao_ireturn dX4_statement_115 rfl (ao_nb hz11) ⟨rfl, rfl⟩
        · replace h := ao_ifF h c9
          by_cases c12 : v8 = (3 : Int32)
          · replace h := ao_ifT h c12
            refine ao_tableIn 116 dX4_statement_38 (by rw [c12]; decide) (by rw [c12]; decide) (by rw [c12]; rfl) (by decide) ?_
            refine ao_aload_n 0 dX4_statement_116 rfl rfl ?_
            refine ao_bipush (v := 10) dX4_statement_117 (by decide) ?_
            refine ao_iload_n 2 dX4_statement_119 rfl rfl ?_
            obtain ⟨p13, hp13, h⟩ := ao_bind h
            refine an_callVi r0 4 (q := (RX4, TX4, 3)) [.int (10 : Int32), .int x2] (aX4_assignment (d - 1) (by omega) _ r0 (10 : Int32) x2 M5 ρ hp13) dX4_statement_120 lc_X4_68 li_X4_assignment ls_X4_assignment rfl hk1 rfl rfl (Nat.le_of_ble_eq_true rfl) (ao_hR (by omega) (by decide)) ?_
            obtain ⟨hz14, h⟩ := ao_some h
            cases h
            exact ao_ireturn dX4_statement_123 rfl (ao_nb hz14) ⟨rfl, rfl⟩
          · replace h := ao_ifF h c12
            by_cases c15 : v8 = (5 : Int32)
            · replace h := ao_ifT h c15
              refine ao_tableIn 124 dX4_statement_38 (by rw [c15]; decide) (by rw [c15]; decide) (by rw [c15]; rfl) (by decide) ?_
              refine ao_aload_n 0 dX4_statement_124 rfl rfl ?_
              refine ao_iload_n 1 dX4_statement_125 rfl rfl ?_
              refine ao_iload_n 2 dX4_statement_126 rfl rfl ?_
              obtain ⟨he17, h⟩ := ao_some h
              obtain ⟨p16, hp16, h⟩ := ao_bind h
              have hAp16 : ao_A Γ uX4_ifStatement (d - 1) 0 0 [.ref (Γ.2.2.2 + r0), .int x1, .int x2] (M5, ρ) (ao_PI ρ p16) := by
                refine ao_of (by decide) (ao_cat1 (Nat.le_of_ble_eq_true rfl)) (Nat.le_of_ble_eq_true rfl) ?_
                show ao_W Γ uX4_ifStatement (ao_rm (d - 1) 0 0) (ao_Q Γ (ao_PI ρ p16) 0 0) 0 0 0 [some (.ref (Γ.2.2.2 + r0)), some (.int x1), some (.int x2), none, none] [] (M5, ρ)
                exact ih.2.2.2.2.2.1 (e - 1) (d - 1) (by omega) r0 x1 x2 M5 _ hp16
              refine an_callVi r0 4 (q := (RX4, TX4, 3)) [.int x1, .int x2] hAp16 dX4_statement_127 lc_X4_71 li_X4_ifStatement ls_X4_ifStatement rfl hk1 rfl rfl (Nat.le_of_ble_eq_true rfl) (ao_hR (by omega) (by decide)) ?_
              obtain ⟨hz18, h⟩ := ao_some h
              cases h
              exact ao_ireturn dX4_statement_130 rfl (ao_nb hz18) ⟨rfl, rfl⟩
            · replace h := ao_ifF h c15
              by_cases c19 : v8 = (7 : Int32)
              · replace h := ao_ifT h c19
                refine ao_tableIn 131 dX4_statement_38 (by rw [c19]; decide) (by rw [c19]; decide) (by rw [c19]; rfl) (by decide) ?_
                refine ao_aload_n 0 dX4_statement_131 rfl rfl ?_
                refine ao_iload_n 1 dX4_statement_132 rfl rfl ?_
                refine ao_iload_n 2 dX4_statement_133 rfl rfl ?_
                obtain ⟨he21, h⟩ := ao_some h
                obtain ⟨p20, hp20, h⟩ := ao_bind h
                have hAp20 : ao_A Γ uX4_whileStatement (d - 1) 0 0 [.ref (Γ.2.2.2 + r0), .int x1, .int x2] (M5, ρ) (ao_PI ρ p20) := by
                  refine ao_of (by decide) (ao_cat1 (Nat.le_of_ble_eq_true rfl)) (Nat.le_of_ble_eq_true rfl) ?_
                  show ao_W Γ uX4_whileStatement (ao_rm (d - 1) 0 0) (ao_Q Γ (ao_PI ρ p20) 0 0) 0 0 0 [some (.ref (Γ.2.2.2 + r0)), some (.int x1), some (.int x2), none, none] [] (M5, ρ)
                  exact ih.2.2.2.2.2.2.1 (e - 1) (d - 1) (by omega) r0 x1 x2 M5 _ hp20
                refine an_callVi r0 4 (q := (RX4, TX4, 3)) [.int x1, .int x2] hAp20 dX4_statement_134 lc_X4_74 li_X4_whileStatement ls_X4_whileStatement rfl hk1 rfl rfl (Nat.le_of_ble_eq_true rfl) (ao_hR (by omega) (by decide)) ?_
                obtain ⟨hz22, h⟩ := ao_some h
                cases h
                exact ao_ireturn dX4_statement_137 rfl (ao_nb hz22) ⟨rfl, rfl⟩
              · replace h := ao_ifF h c19
                by_cases c23 : v8 = (8 : Int32)
                · replace h := ao_ifT h c23
                  refine ao_tableIn 138 dX4_statement_38 (by rw [c23]; decide) (by rw [c23]; decide) (by rw [c23]; rfl) (by decide) ?_
                  refine ao_aload_n 0 dX4_statement_138 rfl rfl ?_
                  refine ao_bipush (v := 15) dX4_statement_139 (by decide) ?_
                  refine ao_iload_n 2 dX4_statement_141 rfl rfl ?_
                  obtain ⟨p24, hp24, h⟩ := ao_bind h
                  refine an_callVi r0 4 (q := (RX4, TX4, 3)) [.int (15 : Int32), .int x2] (aX4_valueStatement (d - 1) (by omega) _ r0 (15 : Int32) x2 M5 ρ hp24) dX4_statement_142 lc_X4_77 li_X4_valueStatement ls_X4_valueStatement rfl hk1 rfl rfl (Nat.le_of_ble_eq_true rfl) (ao_hR (by omega) (by decide)) ?_
                  obtain ⟨hz25, h⟩ := ao_some h
                  cases h
                  exact ao_ireturn dX4_statement_145 rfl (ao_nb hz25) ⟨rfl, rfl⟩
                · replace h := ao_ifF h c23
                  by_cases c26 : v8 = (9 : Int32)
                  · replace h := ao_ifT h c26
                    refine ao_tableIn 154 dX4_statement_38 (by rw [c26]; decide) (by rw [c26]; decide) (by rw [c26]; rfl) (by decide) ?_
                    refine ao_aload_n 0 dX4_statement_154 rfl rfl ?_
                    refine ao_iload_n 1 dX4_statement_155 rfl rfl ?_
                    refine ao_iload_n 2 dX4_statement_156 rfl rfl ?_
                    obtain ⟨he28, h⟩ := ao_some h
                    obtain ⟨p27, hp27, h⟩ := ao_bind h
                    have hAp27 : ao_A Γ uX4_levelStatement (d - 1) 0 0 [.ref (Γ.2.2.2 + r0), .int x1, .int x2] (M5, ρ) (ao_PI ρ p27) := by
                      refine ao_of (by decide) (ao_cat1 (Nat.le_of_ble_eq_true rfl)) (Nat.le_of_ble_eq_true rfl) ?_
                      show ao_W Γ uX4_levelStatement (ao_rm (d - 1) 0 0) (ao_Q Γ (ao_PI ρ p27) 0 0) 0 0 0 [some (.ref (Γ.2.2.2 + r0)), some (.int x1), some (.int x2), none, none] [] (M5, ρ)
                      exact ih.2.2.2.2.2.2.2.1 (e - 1) (d - 1) (by omega) r0 x1 x2 M5 _ hp27
                    refine an_callVi r0 4 (q := (RX4, TX4, 3)) [.int x1, .int x2] hAp27 dX4_statement_157 lc_X4_80 li_X4_levelStatement ls_X4_levelStatement rfl hk1 rfl rfl (Nat.le_of_ble_eq_true rfl) (ao_hR (by omega) (by decide)) ?_
                    obtain ⟨hz29, h⟩ := ao_some h
                    cases h
                    exact ao_ireturn dX4_statement_160 rfl (ao_nb hz29) ⟨rfl, rfl⟩
                  · replace h := ao_ifF h c26
                    by_cases c30 : v8 = (10 : Int32)
                    · replace h := ao_ifT h c30
                      refine ao_tableIn 161 dX4_statement_38 (by rw [c30]; decide) (by rw [c30]; decide) (by rw [c30]; rfl) (by decide) ?_
                      refine ao_aload_n 0 dX4_statement_161 rfl rfl ?_
                      refine ao_iconst (v := 0) dX4_statement_162 (by decide) ?_
                      refine ao_iload_n 2 dX4_statement_163 rfl rfl ?_
                      obtain ⟨he32, h⟩ := ao_some h
                      obtain ⟨p31, hp31, h⟩ := ao_bind h
                      have hAp31 : ao_A Γ uX4_levelStatement (d - 1) 0 0 [.ref (Γ.2.2.2 + r0), .int (0 : Int32), .int x2] (M5, ρ) (ao_PI ρ p31) := by
                        refine ao_of (by decide) (ao_cat1 (Nat.le_of_ble_eq_true rfl)) (Nat.le_of_ble_eq_true rfl) ?_
                        show ao_W Γ uX4_levelStatement (ao_rm (d - 1) 0 0) (ao_Q Γ (ao_PI ρ p31) 0 0) 0 0 0 [some (.ref (Γ.2.2.2 + r0)), some (.int (0 : Int32)), some (.int x2), none, none] [] (M5, ρ)
                        exact ih.2.2.2.2.2.2.2.1 (e - 1) (d - 1) (by omega) r0 (0 : Int32) x2 M5 _ hp31
                      refine an_callVi r0 4 (q := (RX4, TX4, 3)) [.int (0 : Int32), .int x2] hAp31 dX4_statement_164 lc_X4_80 li_X4_levelStatement ls_X4_levelStatement rfl hk1 rfl rfl (Nat.le_of_ble_eq_true rfl) (ao_hR (by omega) (by decide)) ?_
                      obtain ⟨hz33, h⟩ := ao_some h
                      cases h
                      exact ao_ireturn dX4_statement_167 rfl (ao_nb hz33) ⟨rfl, rfl⟩
                    · replace h := ao_ifF h c30
                      by_cases c34 : v8 = (12 : Int32)
                      · replace h := ao_ifT h c34
                        refine ao_tableIn 168 dX4_statement_38 (by rw [c34]; decide) (by rw [c34]; decide) (by rw [c34]; rfl) (by decide) ?_
                        refine ao_aload_n 0 dX4_statement_168 rfl rfl ?_
                        refine ao_bipush (v := 18) dX4_statement_169 (by decide) ?_
                        refine ao_iload_n 1 dX4_statement_171 rfl rfl ?_
                        obtain ⟨p35, hp35, h⟩ := ao_bind h
                        refine an_callVi r0 4 (q := (RX4, TX4, 3)) [.int (18 : Int32), .int x1] (aX4_bareStatement (d - 1) (by omega) _ r0 (18 : Int32) x1 M5 ρ hp35) dX4_statement_172 lc_X4_83 li_X4_bareStatement ls_X4_bareStatement rfl hk1 rfl rfl (Nat.le_of_ble_eq_true rfl) (ao_hR (by omega) (by decide)) ?_
                        obtain ⟨hz36, h⟩ := ao_some h
                        cases h
                        exact ao_ireturn dX4_statement_175 rfl (ao_nb hz36) ⟨rfl, rfl⟩
                      · replace h := ao_ifF h c34
                        by_cases c37 : v8 = (13 : Int32)
                        · replace h := ao_ifT h c37
                          refine ao_tableIn 176 dX4_statement_38 (by rw [c37]; decide) (by rw [c37]; decide) (by rw [c37]; rfl) (by decide) ?_
                          refine ao_aload_n 0 dX4_statement_176 rfl rfl ?_
                          refine ao_bipush (v := 19) dX4_statement_177 (by decide) ?_
                          refine ao_iload_n 1 dX4_statement_179 rfl rfl ?_
                          obtain ⟨p38, hp38, h⟩ := ao_bind h
                          refine an_callVi r0 4 (q := (RX4, TX4, 3)) [.int (19 : Int32), .int x1] (aX4_bareStatement (d - 1) (by omega) _ r0 (19 : Int32) x1 M5 ρ hp38) dX4_statement_180 lc_X4_83 li_X4_bareStatement ls_X4_bareStatement rfl hk1 rfl rfl (Nat.le_of_ble_eq_true rfl) (ao_hR (by omega) (by decide)) ?_
                          obtain ⟨hz39, h⟩ := ao_some h
                          cases h
                          exact ao_ireturn dX4_statement_183 rfl (ao_nb hz39) ⟨rfl, rfl⟩
                        · replace h := ao_ifF h c37
                          by_cases c40 : v8 = (14 : Int32)
                          · replace h := ao_ifT h c40
                            refine ao_tableIn 146 dX4_statement_38 (by rw [c40]; decide) (by rw [c40]; decide) (by rw [c40]; rfl) (by decide) ?_
                            refine ao_aload_n 0 dX4_statement_146 rfl rfl ?_
                            refine ao_bipush (v := 20) dX4_statement_147 (by decide) ?_
                            refine ao_iload_n 2 dX4_statement_149 rfl rfl ?_
                            obtain ⟨p41, hp41, h⟩ := ao_bind h
                            refine an_callVi r0 4 (q := (RX4, TX4, 3)) [.int (20 : Int32), .int x2] (aX4_valueStatement (d - 1) (by omega) _ r0 (20 : Int32) x2 M5 ρ hp41) dX4_statement_150 lc_X4_77 li_X4_valueStatement ls_X4_valueStatement rfl hk1 rfl rfl (Nat.le_of_ble_eq_true rfl) (ao_hR (by omega) (by decide)) ?_
                            obtain ⟨hz42, h⟩ := ao_some h
                            cases h
                            exact ao_ireturn dX4_statement_153 rfl (ao_nb hz42) ⟨rfl, rfl⟩
                          · replace h := ao_ifF h c40
                            by_cases c43 : v8 = (15 : Int32)
                            · replace h := ao_ifT h c43
                              refine ao_tableIn 184 dX4_statement_38 (by rw [c43]; decide) (by rw [c43]; decide) (by rw [c43]; rfl) (by decide) ?_
                              refine ao_aload_n 0 dX4_statement_184 rfl rfl ?_
                              refine ao_iload_n 1 dX4_statement_185 rfl rfl ?_
                              refine ao_iload_n 2 dX4_statement_186 rfl rfl ?_
                              obtain ⟨he45, h⟩ := ao_some h
                              obtain ⟨p44, hp44, h⟩ := ao_bind h
                              have hAp44 : ao_A Γ uX4_tryStatement (d - 1) 0 0 [.ref (Γ.2.2.2 + r0), .int x1, .int x2] (M5, ρ) (ao_PI ρ p44) := by
                                refine ao_of (by decide) (ao_cat1 (Nat.le_of_ble_eq_true rfl)) (Nat.le_of_ble_eq_true rfl) ?_
                                show ao_W Γ uX4_tryStatement (ao_rm (d - 1) 0 0) (ao_Q Γ (ao_PI ρ p44) 0 0) 0 0 0 [some (.ref (Γ.2.2.2 + r0)), some (.int x1), some (.int x2), none, none] [] (M5, ρ)
                                exact ih.2.2.2.2.2.2.2.2.2 (e - 1) (d - 1) (by omega) r0 x1 x2 M5 _ hp44
                              refine an_callVi r0 4 (q := (RX4, TX4, 3)) [.int x1, .int x2] hAp44 dX4_statement_187 lc_X4_87 li_X4_tryStatement ls_X4_tryStatement rfl hk1 rfl rfl (Nat.le_of_ble_eq_true rfl) (ao_hR (by omega) (by decide)) ?_
                              obtain ⟨hz46, h⟩ := ao_some h
                              cases h
                              exact ao_ireturn dX4_statement_190 rfl (ao_nb hz46) ⟨rfl, rfl⟩
                            · replace h := ao_ifF h c43
                              by_cases c47 : v8 = (4 : Int32)
                              · refine ao_tableIn 191 dX4_statement_38 (by rw [c47]; decide) (by rw [c47]; decide) (by rw [c47]; rfl) (by decide) ?_
                                exact ih.2.2.2.2.1 e d hd r0 x1 x2 M5 _ h
                              · by_cases c48 : v8 = (6 : Int32)
                                · refine ao_tableIn 191 dX4_statement_38 (by rw [c48]; decide) (by rw [c48]; decide) (by rw [c48]; rfl) (by decide) ?_
                                  exact ih.2.2.2.2.1 e d hd r0 x1 x2 M5 _ h
                                · by_cases c49 : v8 = (11 : Int32)
                                  · refine ao_tableIn 191 dX4_statement_38 (by rw [c49]; decide) (by rw [c49]; decide) (by rw [c49]; rfl) (by decide) ?_
                                    exact ih.2.2.2.2.1 e d hd r0 x1 x2 M5 _ h
                                  · refine ao_tableOut 191 dX4_statement_38 (by have nc9 := ao_ne (z := 2) c9 (by decide); have nc12 := ao_ne (z := 3) c12 (by decide); have nc15 := ao_ne (z := 5) c15 (by decide); have nc19 := ao_ne (z := 7) c19 (by decide); have nc23 := ao_ne (z := 8) c23 (by decide); have nc26 := ao_ne (z := 9) c26 (by decide); have nc30 := ao_ne (z := 10) c30 (by decide); have nc34 := ao_ne (z := 12) c34 (by decide); have nc37 := ao_ne (z := 13) c37 (by decide); have nc40 := ao_ne (z := 14) c40 (by decide); have nc43 := ao_ne (z := 15) c43 (by decide); have nc47 := ao_ne (z := 4) c47 (by decide); have nc48 := ao_ne (z := 6) c48 (by decide); have nc49 := ao_ne (z := 11) c49 (by decide); omega) (by decide) ?_
                                    exact ih.2.2.2.2.1 e d hd r0 x1 x2 M5 _ h
      · replace h := ao_ifF h c4
        refine ao_aload_n 0 dX4_statement_13 rfl rfl ?_
        obtain ⟨p50, hp50, h⟩ := ao_bind h
        refine an_callVi r0 4 (q := (RX4, TX4, 3)) [] (aX4_broken (d - 1) (by omega) r0 M ρ hp50) dX4_statement_14 lc_X4_45 li_X4_broken ls_X4_broken rfl hk1 rfl rfl (Nat.le_of_ble_eq_true rfl) (ao_hR (by omega) (by decide)) ?_
        obtain ⟨hz51, h⟩ := ao_some h
        cases h
        exact ao_ireturn dX4_statement_17 rfl (ao_nb hz51) ⟨rfl, rfl⟩
    · intro e d hd r0 x1 x2 M y h
      replace h := ao_ifF h (by decide)
      replace h := ao_ifF h (by decide)
      replace h := ao_ifF h (by decide)
      replace h := ao_ifF h (by decide)
      replace h := ao_ifT h rfl
      refine ao_aload_n 0 dX4_statement_191 rfl rfl ?_
      obtain ⟨hk52, h⟩ := ao_some h
      obtain ⟨p53, hp53, h⟩ := ao_bind h
      refine an_callVi r0 4 (q := (RX4, TX4, 3)) [] (aX4_broken (d - 1) (by omega) r0 M ρ hp53) dX4_statement_192 lc_X4_45 li_X4_broken ls_X4_broken rfl hk52 rfl rfl (Nat.le_of_ble_eq_true rfl) (ao_hR (by omega) (by decide)) ?_
      obtain ⟨hz54, h⟩ := ao_some h
      cases h
      exact ao_ireturn dX4_statement_195 rfl (ao_nb hz54) ⟨rfl, rfl⟩
    · intro e d hd r0 x1 x2 M y h
      replace h := ao_ifF h (by decide)
      replace h := ao_ifF h (by decide)
      replace h := ao_ifF h (by decide)
      replace h := ao_ifF h (by decide)
      replace h := ao_ifF h (by decide)
      replace h := ao_ifT h rfl
      refine ao_aload_n 0 dX4_ifStatement_0 rfl rfl ?_
      refine ao_iload_n 2 dX4_ifStatement_1 rfl rfl ?_
      obtain ⟨hk1, h⟩ := ao_some h
      obtain ⟨p2, hp2, h⟩ := ao_bind h
      refine an_callVi r0 4 (q := (RX4, TX4, 3)) [.int x2] (aX4_condition (d - 1) (by omega) _ r0 x2 M ρ hp2) dX4_ifStatement_2 lc_X4_100 li_X4_condition ls_X4_condition rfl hk1 rfl rfl (Nat.le_of_ble_eq_true rfl) (ao_hR (by omega) (by decide)) ?_
      refine ao_if_ne 10 dX4_ifStatement_5 (by decide) (fun c3 => ?_) (fun c3 => ?_)
      · replace h := ao_ifF h c3
        refine ao_aload_n 0 dX4_ifStatement_10 rfl rfl ?_
        obtain ⟨j4, hj4, h⟩ := ao_bind h
        refine an_getR r0 4 1 (q := (RX4, TX4, 3)) dX4_ifStatement_11 rfl hk1 (Nat.le_of_ble_eq_true rfl) rfl lf_X4_23 hj4 ?_
        refine ao_bipush (v := 13) dX4_ifStatement_14 (by decide) ?_
        refine ao_iconst (v := 0) dX4_ifStatement_16 (by decide) ?_
        obtain ⟨hk5, h⟩ := ao_some h
        obtain ⟨p6, hp6, h⟩ := ao_bind h
        refine an_callVi j4 1 (q := (RX1, TX1, 6)) [.int (13 : Int32), .int (0 : Int32)] (aX1_add (d - 1) (by omega) j4 (13 : Int32) (0 : Int32) p2.2 ρ hp6) dX4_ifStatement_17 lc_X4_96 li_X1_add ls_X1_add rfl hk5 rfl rfl (Nat.le_of_ble_eq_true rfl) (ao_hR (by omega) (by decide)) ?_
        refine an_topi (fun v7 hv7 => ?_)
        replace h := ao_letD h hv7
        refine ao_istore_n 3 (lo' := [some (.ref (Γ.2.2.2 + r0)), some (.int x1), some (.int x2), some (.int v7), none]) dX4_ifStatement_20 rfl (Nat.le_of_ble_eq_true rfl) rfl ?_
        refine ao_aload_n 0 dX4_ifStatement_21 rfl rfl ?_
        refine ao_iload_n 1 dX4_ifStatement_22 rfl rfl ?_
        refine ao_iload_n 2 dX4_ifStatement_23 rfl rfl ?_
        obtain ⟨he9, h⟩ := ao_some h
        obtain ⟨p8, hp8, h⟩ := ao_bind h
        have hAp8 : ao_A Γ uX4_block (d - 1) 0 0 [.ref (Γ.2.2.2 + r0), .int x1, .int x2] (p6.2, ρ) (ao_PI ρ p8) := by
          refine ao_of (by decide) (ao_cat1 (Nat.le_of_ble_eq_true rfl)) (Nat.le_of_ble_eq_true rfl) ?_
          show ao_W Γ uX4_block (ao_rm (d - 1) 0 0) (ao_Q Γ (ao_PI ρ p8) 0 0) 0 0 0 [some (.ref (Γ.2.2.2 + r0)), some (.int x1), some (.int x2)] [] (p6.2, ρ)
          exact ih.2.2.1 (e - 1) (d - 1) (by omega) r0 x1 x2 p6.2 _ hp8
        refine an_callVi r0 4 (q := (RX4, TX4, 3)) [.int x1, .int x2] hAp8 dX4_ifStatement_24 lc_X4_103 li_X4_block ls_X4_block rfl hk1 rfl rfl (Nat.le_of_ble_eq_true rfl) (ao_hR (by omega) (by decide)) ?_
        refine ao_if_ne 32 dX4_ifStatement_27 (by decide) (fun c10 => ?_) (fun c10 => ?_)
        · replace h := ao_ifF h c10
          refine ao_aload_n 0 dX4_ifStatement_32 rfl rfl ?_
          obtain ⟨j11, hj11, h⟩ := ao_bind h
          refine an_getR r0 4 0 (q := (RX4, TX4, 3)) dX4_ifStatement_33 rfl hk1 (Nat.le_of_ble_eq_true rfl) rfl lf_X4_12 hj11 ?_
          obtain ⟨hk12, h⟩ := ao_some h
          refine an_getI j11 9 8 (q := (RX9, TX9, 11)) dX4_ifStatement_36 rfl hk12 (Nat.le_of_ble_eq_true rfl) rfl lf_X4_42 ?_
          refine ao_bipush (v := 6) dX4_ifStatement_39 (by decide) ?_
          refine ao_icmp_eq 61 dX4_ifStatement_41 (by decide) (fun c13 => ?_) (fun c13 => ?_)
          · replace h := ao_ifT h c13
            refine ao_aload_n 0 dX4_ifStatement_61 rfl rfl ?_
            refine an_getR r0 4 0 (q := (RX4, TX4, 3)) dX4_ifStatement_62 rfl hk1 (Nat.le_of_ble_eq_true rfl) rfl lf_X4_12 hj11 ?_
            obtain ⟨p14, hp14, h⟩ := ao_bind h
            refine an_callVv j11 9 (q := (RX9, TX9, 11)) [] (aX9_advance (d - 1) (by omega) _ j11 p8.2 ρ hp14) dX4_ifStatement_65 lc_X4_52 li_X9_advance ls_X9_advance rfl hk12 rfl rfl (Nat.le_of_ble_eq_true rfl) (ao_hR (by omega) (by decide)) ?_
            refine ao_aload_n 0 dX4_ifStatement_68 rfl rfl ?_
            refine an_getR r0 4 1 (q := (RX4, TX4, 3)) dX4_ifStatement_69 rfl hk1 (Nat.le_of_ble_eq_true rfl) rfl lf_X4_23 hj4 ?_
            refine ao_bipush (v := 12) dX4_ifStatement_72 (by decide) ?_
            refine ao_iconst (v := 0) dX4_ifStatement_74 (by decide) ?_
            obtain ⟨p15, hp15, h⟩ := ao_bind h
            refine an_callVi j4 1 (q := (RX1, TX1, 6)) [.int (12 : Int32), .int (0 : Int32)] (aX1_add (d - 1) (by omega) j4 (12 : Int32) (0 : Int32) p14 ρ hp15) dX4_ifStatement_75 lc_X4_96 li_X1_add ls_X1_add rfl hk5 rfl rfl (Nat.le_of_ble_eq_true rfl) (ao_hR (by omega) (by decide)) ?_
            refine an_topi (fun v16 hv16 => ?_)
            replace h := ao_letD h hv16
            refine ao_istore 4 (lo' := [some (.ref (Γ.2.2.2 + r0)), some (.int x1), some (.int x2), some (.int v7), some (.int v16)]) dX4_ifStatement_78 (Nat.le_of_ble_eq_true rfl) rfl ?_
            refine ao_aload_n 0 dX4_ifStatement_80 rfl rfl ?_
            refine an_getR r0 4 1 (q := (RX4, TX4, 3)) dX4_ifStatement_81 rfl hk1 (Nat.le_of_ble_eq_true rfl) rfl lf_X4_23 hj4 ?_
            refine ao_iload_n 3 dX4_ifStatement_84 rfl rfl ?_
            refine ao_aload_n 0 dX4_ifStatement_85 rfl rfl ?_
            refine an_getR r0 4 1 (q := (RX4, TX4, 3)) dX4_ifStatement_86 rfl hk1 (Nat.le_of_ble_eq_true rfl) rfl lf_X4_23 hj4 ?_
            refine an_getI j4 1 4 (q := (RX1, TX1, 6)) dX4_ifStatement_89 rfl hk5 (Nat.le_of_ble_eq_true rfl) rfl lf_X4_106 ?_
            obtain ⟨p17, hp17, h⟩ := ao_bind h
            refine an_callVv j4 1 (q := (RX1, TX1, 6)) [.int v7, .int (p15.2 j4 4)] (aX1_setFirst (d - 1) (by omega) j4 v7 (p15.2 j4 4) p15.2 ρ hp17) dX4_ifStatement_92 lc_X4_109 li_X1_setFirst ls_X1_setFirst rfl hk5 rfl rfl (Nat.le_of_ble_eq_true rfl) (ao_hR (by omega) (by decide)) ?_
            refine ao_aload_n 0 dX4_ifStatement_95 rfl rfl ?_
            refine ao_iload_n 1 dX4_ifStatement_96 rfl rfl ?_
            refine ao_iload_n 2 dX4_ifStatement_97 rfl rfl ?_
            obtain ⟨p18, hp18, h⟩ := ao_bind h
            have hAp18 : ao_A Γ uX4_block (d - 1) 0 0 [.ref (Γ.2.2.2 + r0), .int x1, .int x2] (p17, ρ) (ao_PI ρ p18) := by
              refine ao_of (by decide) (ao_cat1 (Nat.le_of_ble_eq_true rfl)) (Nat.le_of_ble_eq_true rfl) ?_
              show ao_W Γ uX4_block (ao_rm (d - 1) 0 0) (ao_Q Γ (ao_PI ρ p18) 0 0) 0 0 0 [some (.ref (Γ.2.2.2 + r0)), some (.int x1), some (.int x2)] [] (p17, ρ)
              exact ih.2.2.1 (e - 1) (d - 1) (by omega) r0 x1 x2 p17 _ hp18
            refine an_callVi r0 4 (q := (RX4, TX4, 3)) [.int x1, .int x2] hAp18 dX4_ifStatement_98 lc_X4_103 li_X4_block ls_X4_block rfl hk1 rfl rfl (Nat.le_of_ble_eq_true rfl) (ao_hR (by omega) (by decide)) ?_
            refine ao_if_ne 106 dX4_ifStatement_101 (by decide) (fun c19 => ?_) (fun c19 => ?_)
            · replace h := ao_ifF h c19
              refine ao_aload_n 0 dX4_ifStatement_106 rfl rfl ?_
              refine an_getR r0 4 1 (q := (RX4, TX4, 3)) dX4_ifStatement_107 rfl hk1 (Nat.le_of_ble_eq_true rfl) rfl lf_X4_23 hj4 ?_
              refine ao_iload 4 dX4_ifStatement_110 rfl ?_
              refine ao_aload_n 0 dX4_ifStatement_112 rfl rfl ?_
              refine an_getR r0 4 1 (q := (RX4, TX4, 3)) dX4_ifStatement_113 rfl hk1 (Nat.le_of_ble_eq_true rfl) rfl lf_X4_23 hj4 ?_
              refine an_getI j4 1 4 (q := (RX1, TX1, 6)) dX4_ifStatement_116 rfl hk5 (Nat.le_of_ble_eq_true rfl) rfl lf_X4_106 ?_
              obtain ⟨p20, hp20, h⟩ := ao_bind h
              refine an_callVv j4 1 (q := (RX1, TX1, 6)) [.int v16, .int (p18.2 j4 4)] (aX1_setFirst (d - 1) (by omega) j4 v16 (p18.2 j4 4) p18.2 ρ hp20) dX4_ifStatement_119 lc_X4_109 li_X1_setFirst ls_X1_setFirst rfl hk5 rfl rfl (Nat.le_of_ble_eq_true rfl) (ao_hR (by omega) (by decide)) ?_
              refine ao_iconst (v := 1) dX4_ifStatement_122 (by decide) ?_
              cases h
              exact ao_ireturn dX4_ifStatement_123 rfl rfl ⟨rfl, rfl⟩
            · replace h := ao_ifT h c19
              refine ao_iconst (v := 0) dX4_ifStatement_104 (by decide) ?_
              cases h
              exact ao_ireturn dX4_ifStatement_105 rfl rfl ⟨rfl, rfl⟩
          · replace h := ao_ifF h c13
            refine ao_aload_n 0 dX4_ifStatement_44 rfl rfl ?_
            refine an_getR r0 4 1 (q := (RX4, TX4, 3)) dX4_ifStatement_45 rfl hk1 (Nat.le_of_ble_eq_true rfl) rfl lf_X4_23 hj4 ?_
            refine ao_iload_n 3 dX4_ifStatement_48 rfl rfl ?_
            refine ao_aload_n 0 dX4_ifStatement_49 rfl rfl ?_
            refine an_getR r0 4 1 (q := (RX4, TX4, 3)) dX4_ifStatement_50 rfl hk1 (Nat.le_of_ble_eq_true rfl) rfl lf_X4_23 hj4 ?_
            refine an_getI j4 1 4 (q := (RX1, TX1, 6)) dX4_ifStatement_53 rfl hk5 (Nat.le_of_ble_eq_true rfl) rfl lf_X4_106 ?_
            obtain ⟨p21, hp21, h⟩ := ao_bind h
            refine an_callVv j4 1 (q := (RX1, TX1, 6)) [.int v7, .int (p8.2 j4 4)] (aX1_setFirst (d - 1) (by omega) j4 v7 (p8.2 j4 4) p8.2 ρ hp21) dX4_ifStatement_56 lc_X4_109 li_X1_setFirst ls_X1_setFirst rfl hk5 rfl rfl (Nat.le_of_ble_eq_true rfl) (ao_hR (by omega) (by decide)) ?_
            refine ao_iconst (v := 1) dX4_ifStatement_59 (by decide) ?_
            cases h
            exact ao_ireturn dX4_ifStatement_60 rfl rfl ⟨rfl, rfl⟩
        · replace h := ao_ifT h c10
          refine ao_iconst (v := 0) dX4_ifStatement_30 (by decide) ?_
          cases h
          exact ao_ireturn dX4_ifStatement_31 rfl rfl ⟨rfl, rfl⟩
      · replace h := ao_ifT h c3
        refine ao_iconst (v := 0) dX4_ifStatement_8 (by decide) ?_
        cases h
        exact ao_ireturn dX4_ifStatement_9 rfl rfl ⟨rfl, rfl⟩
    · intro e d hd r0 x1 x2 M y h
      replace h := ao_ifF h (by decide)
      replace h := ao_ifF h (by decide)
      replace h := ao_ifF h (by decide)
      replace h := ao_ifF h (by decide)
      replace h := ao_ifF h (by decide)
      replace h := ao_ifF h (by decide)
      replace h := ao_ifT h rfl
      refine ao_aload_n 0 dX4_whileStatement_0 rfl rfl ?_
      obtain ⟨hk1, h⟩ := ao_some h
      obtain ⟨j2, hj2, h⟩ := ao_bind h
      refine an_getR r0 4 1 (q := (RX4, TX4, 3)) dX4_whileStatement_1 rfl hk1 (Nat.le_of_ble_eq_true rfl) rfl lf_X4_23 hj2 ?_
      obtain ⟨hk3, h⟩ := ao_some h
      refine an_getI j2 1 4 (q := (RX1, TX1, 6)) dX4_whileStatement_4 rfl hk3 (Nat.le_of_ble_eq_true rfl) rfl lf_X4_106 ?_
      refine an_topi (fun v4 hv4 => ?_)
      replace h := ao_letD h hv4
      refine ao_istore_n 3 (lo' := [some (.ref (Γ.2.2.2 + r0)), some (.int x1), some (.int x2), some (.int v4), none]) dX4_whileStatement_7 rfl (Nat.le_of_ble_eq_true rfl) rfl ?_
      refine ao_aload_n 0 dX4_whileStatement_8 rfl rfl ?_
      refine ao_iload_n 2 dX4_whileStatement_9 rfl rfl ?_
      obtain ⟨p5, hp5, h⟩ := ao_bind h
      refine an_callVi r0 4 (q := (RX4, TX4, 3)) [.int x2] (aX4_condition (d - 1) (by omega) _ r0 x2 M ρ hp5) dX4_whileStatement_10 lc_X4_100 li_X4_condition ls_X4_condition rfl hk1 rfl rfl (Nat.le_of_ble_eq_true rfl) (ao_hR (by omega) (by decide)) ?_
      refine ao_if_ne 18 dX4_whileStatement_13 (by decide) (fun c6 => ?_) (fun c6 => ?_)
      · replace h := ao_ifF h c6
        refine ao_aload_n 0 dX4_whileStatement_18 rfl rfl ?_
        refine an_getR r0 4 1 (q := (RX4, TX4, 3)) dX4_whileStatement_19 rfl hk1 (Nat.le_of_ble_eq_true rfl) rfl lf_X4_23 hj2 ?_
        refine ao_bipush (v := 14) dX4_whileStatement_22 (by decide) ?_
        refine ao_iconst (v := 0) dX4_whileStatement_24 (by decide) ?_
        obtain ⟨p7, hp7, h⟩ := ao_bind h
        refine an_callVi j2 1 (q := (RX1, TX1, 6)) [.int (14 : Int32), .int (0 : Int32)] (aX1_add (d - 1) (by omega) j2 (14 : Int32) (0 : Int32) p5.2 ρ hp7) dX4_whileStatement_25 lc_X4_96 li_X1_add ls_X1_add rfl hk3 rfl rfl (Nat.le_of_ble_eq_true rfl) (ao_hR (by omega) (by decide)) ?_
        refine an_topi (fun v8 hv8 => ?_)
        replace h := ao_letD h hv8
        refine ao_istore 4 (lo' := [some (.ref (Γ.2.2.2 + r0)), some (.int x1), some (.int x2), some (.int v4), some (.int v8)]) dX4_whileStatement_28 (Nat.le_of_ble_eq_true rfl) rfl ?_
        refine ao_aload_n 0 dX4_whileStatement_30 rfl rfl ?_
        refine ao_iload_n 1 dX4_whileStatement_31 rfl rfl ?_
        refine ao_iload_n 2 dX4_whileStatement_32 rfl rfl ?_
        obtain ⟨he10, h⟩ := ao_some h
        obtain ⟨p9, hp9, h⟩ := ao_bind h
        have hAp9 : ao_A Γ uX4_block (d - 1) 0 0 [.ref (Γ.2.2.2 + r0), .int x1, .int x2] (p7.2, ρ) (ao_PI ρ p9) := by
          refine ao_of (by decide) (ao_cat1 (Nat.le_of_ble_eq_true rfl)) (Nat.le_of_ble_eq_true rfl) ?_
          show ao_W Γ uX4_block (ao_rm (d - 1) 0 0) (ao_Q Γ (ao_PI ρ p9) 0 0) 0 0 0 [some (.ref (Γ.2.2.2 + r0)), some (.int x1), some (.int x2)] [] (p7.2, ρ)
          exact ih.2.2.1 (e - 1) (d - 1) (by omega) r0 x1 x2 p7.2 _ hp9
        refine an_callVi r0 4 (q := (RX4, TX4, 3)) [.int x1, .int x2] hAp9 dX4_whileStatement_33 lc_X4_103 li_X4_block ls_X4_block rfl hk1 rfl rfl (Nat.le_of_ble_eq_true rfl) (ao_hR (by omega) (by decide)) ?_
        refine ao_if_ne 41 dX4_whileStatement_36 (by decide) (fun c11 => ?_) (fun c11 => ?_)
        · replace h := ao_ifF h c11
          refine ao_aload_n 0 dX4_whileStatement_41 rfl rfl ?_
          refine an_getR r0 4 1 (q := (RX4, TX4, 3)) dX4_whileStatement_42 rfl hk1 (Nat.le_of_ble_eq_true rfl) rfl lf_X4_23 hj2 ?_
          refine ao_bipush (v := 12) dX4_whileStatement_45 (by decide) ?_
          refine ao_iload_n 3 dX4_whileStatement_47 rfl rfl ?_
          obtain ⟨p12, hp12, h⟩ := ao_bind h
          refine an_callVi j2 1 (q := (RX1, TX1, 6)) [.int (12 : Int32), .int v4] (aX1_add (d - 1) (by omega) j2 (12 : Int32) v4 p9.2 ρ hp12) dX4_whileStatement_48 lc_X4_96 li_X1_add ls_X1_add rfl hk3 rfl rfl (Nat.le_of_ble_eq_true rfl) (ao_hR (by omega) (by decide)) ?_
          refine ao_pop dX4_whileStatement_51 rfl ?_
          refine ao_aload_n 0 dX4_whileStatement_52 rfl rfl ?_
          refine an_getR r0 4 1 (q := (RX4, TX4, 3)) dX4_whileStatement_53 rfl hk1 (Nat.le_of_ble_eq_true rfl) rfl lf_X4_23 hj2 ?_
          refine ao_iload 4 dX4_whileStatement_56 rfl ?_
          refine ao_aload_n 0 dX4_whileStatement_58 rfl rfl ?_
          refine an_getR r0 4 1 (q := (RX4, TX4, 3)) dX4_whileStatement_59 rfl hk1 (Nat.le_of_ble_eq_true rfl) rfl lf_X4_23 hj2 ?_
          refine an_getI j2 1 4 (q := (RX1, TX1, 6)) dX4_whileStatement_62 rfl hk3 (Nat.le_of_ble_eq_true rfl) rfl lf_X4_106 ?_
          obtain ⟨p13, hp13, h⟩ := ao_bind h
          refine an_callVv j2 1 (q := (RX1, TX1, 6)) [.int v8, .int (p12.2 j2 4)] (aX1_setFirst (d - 1) (by omega) j2 v8 (p12.2 j2 4) p12.2 ρ hp13) dX4_whileStatement_65 lc_X4_109 li_X1_setFirst ls_X1_setFirst rfl hk3 rfl rfl (Nat.le_of_ble_eq_true rfl) (ao_hR (by omega) (by decide)) ?_
          refine ao_iconst (v := 1) dX4_whileStatement_68 (by decide) ?_
          cases h
          exact ao_ireturn dX4_whileStatement_69 rfl rfl ⟨rfl, rfl⟩
        · replace h := ao_ifT h c11
          refine ao_iconst (v := 0) dX4_whileStatement_39 (by decide) ?_
          cases h
          exact ao_ireturn dX4_whileStatement_40 rfl rfl ⟨rfl, rfl⟩
      · replace h := ao_ifT h c6
        refine ao_iconst (v := 0) dX4_whileStatement_16 (by decide) ?_
        cases h
        exact ao_ireturn dX4_whileStatement_17 rfl rfl ⟨rfl, rfl⟩
    · intro e d hd r0 x1 x2 M y h
      replace h := ao_ifF h (by decide)
      replace h := ao_ifF h (by decide)
      replace h := ao_ifF h (by decide)
      replace h := ao_ifF h (by decide)
      replace h := ao_ifF h (by decide)
      replace h := ao_ifF h (by decide)
      replace h := ao_ifF h (by decide)
      replace h := ao_ifT h rfl
      refine ao_aload_n 0 dX4_levelStatement_0 rfl rfl ?_
      obtain ⟨hk1, h⟩ := ao_some h
      obtain ⟨j2, hj2, h⟩ := ao_bind h
      refine an_getR r0 4 0 (q := (RX4, TX4, 3)) dX4_levelStatement_1 rfl hk1 (Nat.le_of_ble_eq_true rfl) rfl lf_X4_12 hj2 ?_
      obtain ⟨hk3, h⟩ := ao_some h
      obtain ⟨p4, hp4, h⟩ := ao_bind h
      refine an_callVv j2 9 (q := (RX9, TX9, 11)) [] (aX9_advance (d - 1) (by omega) _ j2 M ρ hp4) dX4_levelStatement_4 lc_X4_52 li_X9_advance ls_X9_advance rfl hk3 rfl rfl (Nat.le_of_ble_eq_true rfl) (ao_hR (by omega) (by decide)) ?_
      refine ao_aload_n 0 dX4_levelStatement_7 rfl rfl ?_
      obtain ⟨j5, hj5, h⟩ := ao_bind h
      refine an_getR r0 4 1 (q := (RX4, TX4, 3)) dX4_levelStatement_8 rfl hk1 (Nat.le_of_ble_eq_true rfl) rfl lf_X4_23 hj5 ?_
      refine ao_bipush (v := 16) dX4_levelStatement_11 (by decide) ?_
      refine ao_iconst (v := (-1)) dX4_levelStatement_13 (by decide) ?_
      obtain ⟨hk6, h⟩ := ao_some h
      obtain ⟨p7, hp7, h⟩ := ao_bind h
      refine an_callVi j5 1 (q := (RX1, TX1, 6)) [.int (16 : Int32), .int (-1 : Int32)] (aX1_add (d - 1) (by omega) j5 (16 : Int32) (-1 : Int32) p4 ρ hp7) dX4_levelStatement_14 lc_X4_96 li_X1_add ls_X1_add rfl hk6 rfl rfl (Nat.le_of_ble_eq_true rfl) (ao_hR (by omega) (by decide)) ?_
      refine an_topi (fun v8 hv8 => ?_)
      replace h := ao_letD h hv8
      refine ao_istore_n 3 (lo' := [some (.ref (Γ.2.2.2 + r0)), some (.int x1), some (.int x2), some (.int v8), none]) dX4_levelStatement_17 rfl (Nat.le_of_ble_eq_true rfl) rfl ?_
      refine ao_aload_n 0 dX4_levelStatement_18 rfl rfl ?_
      refine ao_iconst (v := 1) dX4_levelStatement_19 (by decide) ?_
      refine ao_iload_n 2 dX4_levelStatement_20 rfl rfl ?_
      obtain ⟨he10, h⟩ := ao_some h
      obtain ⟨p9, hp9, h⟩ := ao_bind h
      have hAp9 : ao_A Γ uX4_block (d - 1) 0 0 [.ref (Γ.2.2.2 + r0), .int (1 : Int32), .int x2] (p7.2, ρ) (ao_PI ρ p9) := by
        refine ao_of (by decide) (ao_cat1 (Nat.le_of_ble_eq_true rfl)) (Nat.le_of_ble_eq_true rfl) ?_
        show ao_W Γ uX4_block (ao_rm (d - 1) 0 0) (ao_Q Γ (ao_PI ρ p9) 0 0) 0 0 0 [some (.ref (Γ.2.2.2 + r0)), some (.int (1 : Int32)), some (.int x2)] [] (p7.2, ρ)
        exact ih.2.2.1 (e - 1) (d - 1) (by omega) r0 (1 : Int32) x2 p7.2 _ hp9
      refine an_callVi r0 4 (q := (RX4, TX4, 3)) [.int (1 : Int32), .int x2] hAp9 dX4_levelStatement_21 lc_X4_103 li_X4_block ls_X4_block rfl hk1 rfl rfl (Nat.le_of_ble_eq_true rfl) (ao_hR (by omega) (by decide)) ?_
      refine ao_if_ne 29 dX4_levelStatement_24 (by decide) (fun c11 => ?_) (fun c11 => ?_)
      · replace h := ao_ifF h c11
        refine ao_aload_n 0 dX4_levelStatement_29 rfl rfl ?_
        refine an_getR r0 4 1 (q := (RX4, TX4, 3)) dX4_levelStatement_30 rfl hk1 (Nat.le_of_ble_eq_true rfl) rfl lf_X4_23 hj5 ?_
        refine ao_bipush (v := 17) dX4_levelStatement_33 (by decide) ?_
        refine ao_iconst (v := 0) dX4_levelStatement_35 (by decide) ?_
        obtain ⟨p12, hp12, h⟩ := ao_bind h
        refine an_callVi j5 1 (q := (RX1, TX1, 6)) [.int (17 : Int32), .int (0 : Int32)] (aX1_add (d - 1) (by omega) j5 (17 : Int32) (0 : Int32) p9.2 ρ hp12) dX4_levelStatement_36 lc_X4_96 li_X1_add ls_X1_add rfl hk6 rfl rfl (Nat.le_of_ble_eq_true rfl) (ao_hR (by omega) (by decide)) ?_
        refine an_topi (fun v13 hv13 => ?_)
        replace h := ao_letD h hv13
        refine ao_istore 4 (lo' := [some (.ref (Γ.2.2.2 + r0)), some (.int x1), some (.int x2), some (.int v8), some (.int v13)]) dX4_levelStatement_39 (Nat.le_of_ble_eq_true rfl) rfl ?_
        refine ao_aload_n 0 dX4_levelStatement_41 rfl rfl ?_
        refine an_getR r0 4 0 (q := (RX4, TX4, 3)) dX4_levelStatement_42 rfl hk1 (Nat.le_of_ble_eq_true rfl) rfl lf_X4_12 hj2 ?_
        refine an_getI j2 9 8 (q := (RX9, TX9, 11)) dX4_levelStatement_45 rfl hk3 (Nat.le_of_ble_eq_true rfl) rfl lf_X4_42 ?_
        refine ao_bipush (v := 11) dX4_levelStatement_48 (by decide) ?_
        refine ao_icmp_ne 100 dX4_levelStatement_50 (by decide) (fun c14 => ?_) (fun c14 => ?_)
        · replace h := ao_ifF h c14
          refine ao_iload_n 1 dX4_levelStatement_100 rfl rfl ?_
          refine ao_if_eq 123 dX4_levelStatement_101 (by decide) (fun c15 => ?_) (fun c15 => ?_)
          · replace h := ao_ifT h c15
            exact ih.2.2.2.2.2.2.2.2.1 e d hd r0 x1 x2 v8 v13 p12.2 _ h
          · replace h := ao_ifF h c15
            refine ao_aload_n 0 dX4_levelStatement_104 rfl rfl ?_
            refine an_getR r0 4 1 (q := (RX4, TX4, 3)) dX4_levelStatement_105 rfl hk1 (Nat.le_of_ble_eq_true rfl) rfl lf_X4_23 hj5 ?_
            refine ao_iload_n 3 dX4_levelStatement_108 rfl rfl ?_
            refine ao_iconst (v := 0) dX4_levelStatement_109 (by decide) ?_
            obtain ⟨p16, hp16, h⟩ := ao_bind h
            refine an_callVv j5 1 (q := (RX1, TX1, 6)) [.int v8, .int (0 : Int32)] (aX1_setOp (d - 1) (by omega) j5 v8 (0 : Int32) p12.2 ρ hp16) dX4_levelStatement_110 lc_X4_113 li_X1_setOp ls_X1_setOp rfl hk6 rfl rfl (Nat.le_of_ble_eq_true rfl) (ao_hR (by omega) (by decide)) ?_
            refine ao_aload_n 0 dX4_levelStatement_113 rfl rfl ?_
            refine an_getR r0 4 1 (q := (RX4, TX4, 3)) dX4_levelStatement_114 rfl hk1 (Nat.le_of_ble_eq_true rfl) rfl lf_X4_23 hj5 ?_
            refine ao_iload 4 dX4_levelStatement_117 rfl ?_
            refine ao_iconst (v := 0) dX4_levelStatement_119 (by decide) ?_
            obtain ⟨p17, hp17, h⟩ := ao_bind h
            refine an_callVv j5 1 (q := (RX1, TX1, 6)) [.int v13, .int (0 : Int32)] (aX1_setOp (d - 1) (by omega) j5 v13 (0 : Int32) p16 ρ hp17) dX4_levelStatement_120 lc_X4_113 li_X1_setOp ls_X1_setOp rfl hk6 rfl rfl (Nat.le_of_ble_eq_true rfl) (ao_hR (by omega) (by decide)) ?_
            exact ih.2.2.2.2.2.2.2.2.1 e d hd r0 x1 x2 v8 v13 p17 _ h
        · replace h := ao_ifT h c14
          refine ao_aload_n 0 dX4_levelStatement_53 rfl rfl ?_
          refine an_getR r0 4 0 (q := (RX4, TX4, 3)) dX4_levelStatement_54 rfl hk1 (Nat.le_of_ble_eq_true rfl) rfl lf_X4_12 hj2 ?_
          obtain ⟨p18, hp18, h⟩ := ao_bind h
          refine an_callVv j2 9 (q := (RX9, TX9, 11)) [] (aX9_advance (d - 1) (by omega) _ j2 p12.2 ρ hp18) dX4_levelStatement_57 lc_X4_52 li_X9_advance ls_X9_advance rfl hk3 rfl rfl (Nat.le_of_ble_eq_true rfl) (ao_hR (by omega) (by decide)) ?_
          refine ao_aload_n 0 dX4_levelStatement_60 rfl rfl ?_
          refine an_getR r0 4 1 (q := (RX4, TX4, 3)) dX4_levelStatement_61 rfl hk1 (Nat.le_of_ble_eq_true rfl) rfl lf_X4_23 hj5 ?_
          refine ao_iload_n 3 dX4_levelStatement_64 rfl rfl ?_
          refine ao_aload_n 0 dX4_levelStatement_65 rfl rfl ?_
          refine an_getR r0 4 1 (q := (RX4, TX4, 3)) dX4_levelStatement_66 rfl hk1 (Nat.le_of_ble_eq_true rfl) rfl lf_X4_23 hj5 ?_
          refine an_getI j5 1 4 (q := (RX1, TX1, 6)) dX4_levelStatement_69 rfl hk6 (Nat.le_of_ble_eq_true rfl) rfl lf_X4_106 ?_
          obtain ⟨p19, hp19, h⟩ := ao_bind h
          refine an_callVv j5 1 (q := (RX1, TX1, 6)) [.int v8, .int (p18 j5 4)] (aX1_setFirst (d - 1) (by omega) j5 v8 (p18 j5 4) p18 ρ hp19) dX4_levelStatement_72 lc_X4_109 li_X1_setFirst ls_X1_setFirst rfl hk6 rfl rfl (Nat.le_of_ble_eq_true rfl) (ao_hR (by omega) (by decide)) ?_
          refine ao_aload_n 0 dX4_levelStatement_75 rfl rfl ?_
          refine ao_iconst (v := 1) dX4_levelStatement_76 (by decide) ?_
          refine ao_iload_n 2 dX4_levelStatement_77 rfl rfl ?_
          obtain ⟨p20, hp20, h⟩ := ao_bind h
          have hAp20 : ao_A Γ uX4_block (d - 1) 0 0 [.ref (Γ.2.2.2 + r0), .int (1 : Int32), .int x2] (p19, ρ) (ao_PI ρ p20) := by
            refine ao_of (by decide) (ao_cat1 (Nat.le_of_ble_eq_true rfl)) (Nat.le_of_ble_eq_true rfl) ?_
            show ao_W Γ uX4_block (ao_rm (d - 1) 0 0) (ao_Q Γ (ao_PI ρ p20) 0 0) 0 0 0 [some (.ref (Γ.2.2.2 + r0)), some (.int (1 : Int32)), some (.int x2)] [] (p19, ρ)
            exact ih.2.2.1 (e - 1) (d - 1) (by omega) r0 (1 : Int32) x2 p19 _ hp20
          refine an_callVi r0 4 (q := (RX4, TX4, 3)) [.int (1 : Int32), .int x2] hAp20 dX4_levelStatement_78 lc_X4_103 li_X4_block ls_X4_block rfl hk1 rfl rfl (Nat.le_of_ble_eq_true rfl) (ao_hR (by omega) (by decide)) ?_
          refine ao_if_ne 86 dX4_levelStatement_81 (by decide) (fun c21 => ?_) (fun c21 => ?_)
          · replace h := ao_ifF h c21
            refine ao_aload_n 0 dX4_levelStatement_86 rfl rfl ?_
            refine an_getR r0 4 1 (q := (RX4, TX4, 3)) dX4_levelStatement_87 rfl hk1 (Nat.le_of_ble_eq_true rfl) rfl lf_X4_23 hj5 ?_
            refine ao_bipush (v := 17) dX4_levelStatement_90 (by decide) ?_
            refine ao_iconst (v := 0) dX4_levelStatement_92 (by decide) ?_
            obtain ⟨p22, hp22, h⟩ := ao_bind h
            refine an_callVi j5 1 (q := (RX1, TX1, 6)) [.int (17 : Int32), .int (0 : Int32)] (aX1_add (d - 1) (by omega) j5 (17 : Int32) (0 : Int32) p20.2 ρ hp22) dX4_levelStatement_93 lc_X4_96 li_X1_add ls_X1_add rfl hk6 rfl rfl (Nat.le_of_ble_eq_true rfl) (ao_hR (by omega) (by decide)) ?_
            refine ao_pop dX4_levelStatement_96 rfl ?_
            refine ao_goto 123 dX4_levelStatement_97 (by decide) ?_
            exact ih.2.2.2.2.2.2.2.2.1 e d hd r0 x1 x2 v8 v13 p22.2 _ h
          · replace h := ao_ifT h c21
            refine ao_iconst (v := 0) dX4_levelStatement_84 (by decide) ?_
            cases h
            exact ao_ireturn dX4_levelStatement_85 rfl rfl ⟨rfl, rfl⟩
      · replace h := ao_ifT h c11
        refine ao_iconst (v := 0) dX4_levelStatement_27 (by decide) ?_
        cases h
        exact ao_ireturn dX4_levelStatement_28 rfl rfl ⟨rfl, rfl⟩
    · intro e d hd r0 x1 x2 x3 x4 M y h
      replace h := ao_ifF h (by decide)
      replace h := ao_ifF h (by decide)
      replace h := ao_ifF h (by decide)
      replace h := ao_ifF h (by decide)
      replace h := ao_ifF h (by decide)
      replace h := ao_ifF h (by decide)
      replace h := ao_ifF h (by decide)
      replace h := ao_ifF h (by decide)
      replace h := ao_ifT h rfl
      refine ao_aload_n 0 dX4_levelStatement_123 rfl rfl ?_
      obtain ⟨hk23, h⟩ := ao_some h
      obtain ⟨j24, hj24, h⟩ := ao_bind h
      refine an_getR r0 4 1 (q := (RX4, TX4, 3)) dX4_levelStatement_124 rfl hk23 (Nat.le_of_ble_eq_true rfl) rfl lf_X4_23 hj24 ?_
      refine ao_iload_n 3 dX4_levelStatement_127 rfl rfl ?_
      refine ao_aload_n 0 dX4_levelStatement_128 rfl rfl ?_
      refine an_getR r0 4 1 (q := (RX4, TX4, 3)) dX4_levelStatement_129 rfl hk23 (Nat.le_of_ble_eq_true rfl) rfl lf_X4_23 hj24 ?_
      obtain ⟨hk25, h⟩ := ao_some h
      refine an_getI j24 1 4 (q := (RX1, TX1, 6)) dX4_levelStatement_132 rfl hk25 (Nat.le_of_ble_eq_true rfl) rfl lf_X4_106 ?_
      obtain ⟨p26, hp26, h⟩ := ao_bind h
      refine an_callVv j24 1 (q := (RX1, TX1, 6)) [.int x3, .int (M j24 4)] (aX1_setSecond (d - 1) (by omega) j24 x3 (M j24 4) M ρ hp26) dX4_levelStatement_135 lc_X4_116 li_X1_setSecond ls_X1_setSecond rfl hk25 rfl rfl (Nat.le_of_ble_eq_true rfl) (ao_hR (by omega) (by decide)) ?_
      refine ao_iconst (v := 1) dX4_levelStatement_138 (by decide) ?_
      cases h
      exact ao_ireturn dX4_levelStatement_139 rfl rfl ⟨rfl, rfl⟩
    · intro e d hd r0 x1 x2 M y h
      replace h := ao_ifF h (by decide)
      replace h := ao_ifF h (by decide)
      replace h := ao_ifF h (by decide)
      replace h := ao_ifF h (by decide)
      replace h := ao_ifF h (by decide)
      replace h := ao_ifF h (by decide)
      replace h := ao_ifF h (by decide)
      replace h := ao_ifF h (by decide)
      replace h := ao_ifF h (by decide)
      replace h := ao_ifT h rfl
      refine ao_aload_n 0 dX4_tryStatement_0 rfl rfl ?_
      obtain ⟨hk1, h⟩ := ao_some h
      obtain ⟨j2, hj2, h⟩ := ao_bind h
      refine an_getR r0 4 0 (q := (RX4, TX4, 3)) dX4_tryStatement_1 rfl hk1 (Nat.le_of_ble_eq_true rfl) rfl lf_X4_12 hj2 ?_
      obtain ⟨hk3, h⟩ := ao_some h
      obtain ⟨p4, hp4, h⟩ := ao_bind h
      refine an_callVv j2 9 (q := (RX9, TX9, 11)) [] (aX9_advance (d - 1) (by omega) _ j2 M ρ hp4) dX4_tryStatement_4 lc_X4_52 li_X9_advance ls_X9_advance rfl hk3 rfl rfl (Nat.le_of_ble_eq_true rfl) (ao_hR (by omega) (by decide)) ?_
      refine ao_aload_n 0 dX4_tryStatement_7 rfl rfl ?_
      obtain ⟨j5, hj5, h⟩ := ao_bind h
      refine an_getR r0 4 1 (q := (RX4, TX4, 3)) dX4_tryStatement_8 rfl hk1 (Nat.le_of_ble_eq_true rfl) rfl lf_X4_23 hj5 ?_
      refine ao_bipush (v := 21) dX4_tryStatement_11 (by decide) ?_
      refine ao_iconst (v := 0) dX4_tryStatement_13 (by decide) ?_
      obtain ⟨hk6, h⟩ := ao_some h
      obtain ⟨p7, hp7, h⟩ := ao_bind h
      refine an_callVi j5 1 (q := (RX1, TX1, 6)) [.int (21 : Int32), .int (0 : Int32)] (aX1_add (d - 1) (by omega) j5 (21 : Int32) (0 : Int32) p4 ρ hp7) dX4_tryStatement_14 lc_X4_96 li_X1_add ls_X1_add rfl hk6 rfl rfl (Nat.le_of_ble_eq_true rfl) (ao_hR (by omega) (by decide)) ?_
      refine an_topi (fun v8 hv8 => ?_)
      replace h := ao_letD h hv8
      refine ao_istore_n 3 (lo' := [some (.ref (Γ.2.2.2 + r0)), some (.int x1), some (.int x2), some (.int v8), none]) dX4_tryStatement_17 rfl (Nat.le_of_ble_eq_true rfl) rfl ?_
      refine ao_aload_n 0 dX4_tryStatement_18 rfl rfl ?_
      refine ao_iload_n 1 dX4_tryStatement_19 rfl rfl ?_
      refine ao_iload_n 2 dX4_tryStatement_20 rfl rfl ?_
      obtain ⟨he10, h⟩ := ao_some h
      obtain ⟨p9, hp9, h⟩ := ao_bind h
      have hAp9 : ao_A Γ uX4_block (d - 1) 0 0 [.ref (Γ.2.2.2 + r0), .int x1, .int x2] (p7.2, ρ) (ao_PI ρ p9) := by
        refine ao_of (by decide) (ao_cat1 (Nat.le_of_ble_eq_true rfl)) (Nat.le_of_ble_eq_true rfl) ?_
        show ao_W Γ uX4_block (ao_rm (d - 1) 0 0) (ao_Q Γ (ao_PI ρ p9) 0 0) 0 0 0 [some (.ref (Γ.2.2.2 + r0)), some (.int x1), some (.int x2)] [] (p7.2, ρ)
        exact ih.2.2.1 (e - 1) (d - 1) (by omega) r0 x1 x2 p7.2 _ hp9
      refine an_callVi r0 4 (q := (RX4, TX4, 3)) [.int x1, .int x2] hAp9 dX4_tryStatement_21 lc_X4_103 li_X4_block ls_X4_block rfl hk1 rfl rfl (Nat.le_of_ble_eq_true rfl) (ao_hR (by omega) (by decide)) ?_
      refine ao_if_ne 29 dX4_tryStatement_24 (by decide) (fun c11 => ?_) (fun c11 => ?_)
      · replace h := ao_ifF h c11
        refine ao_aload_n 0 dX4_tryStatement_29 rfl rfl ?_
        refine an_getR r0 4 1 (q := (RX4, TX4, 3)) dX4_tryStatement_30 rfl hk1 (Nat.le_of_ble_eq_true rfl) rfl lf_X4_23 hj5 ?_
        refine ao_bipush (v := 22) dX4_tryStatement_33 (by decide) ?_
        refine ao_iconst (v := 0) dX4_tryStatement_35 (by decide) ?_
        obtain ⟨p12, hp12, h⟩ := ao_bind h
        refine an_callVi j5 1 (q := (RX1, TX1, 6)) [.int (22 : Int32), .int (0 : Int32)] (aX1_add (d - 1) (by omega) j5 (22 : Int32) (0 : Int32) p9.2 ρ hp12) dX4_tryStatement_36 lc_X4_96 li_X1_add ls_X1_add rfl hk6 rfl rfl (Nat.le_of_ble_eq_true rfl) (ao_hR (by omega) (by decide)) ?_
        refine an_topi (fun v13 hv13 => ?_)
        replace h := ao_letD h hv13
        refine ao_istore 4 (lo' := [some (.ref (Γ.2.2.2 + r0)), some (.int x1), some (.int x2), some (.int v8), some (.int v13)]) dX4_tryStatement_39 (Nat.le_of_ble_eq_true rfl) rfl ?_
        refine ao_aload_n 0 dX4_tryStatement_41 rfl rfl ?_
        refine ao_bipush (v := 16) dX4_tryStatement_42 (by decide) ?_
        obtain ⟨p14, hp14, h⟩ := ao_bind h
        refine an_callVi r0 4 (q := (RX4, TX4, 3)) [.int (16 : Int32)] (aX4_expect (d - 1) (by omega) _ r0 (16 : Int32) p12.2 ρ hp14) dX4_tryStatement_44 lc_X4_55 li_X4_expect ls_X4_expect rfl hk1 rfl rfl (Nat.le_of_ble_eq_true rfl) (ao_hR (by omega) (by decide)) ?_
        refine ao_if_ne 52 dX4_tryStatement_47 (by decide) (fun c15 => ?_) (fun c15 => ?_)
        · replace h := ao_ifF h c15
          refine ao_aload_n 0 dX4_tryStatement_52 rfl rfl ?_
          refine an_getR r0 4 1 (q := (RX4, TX4, 3)) dX4_tryStatement_53 rfl hk1 (Nat.le_of_ble_eq_true rfl) rfl lf_X4_23 hj5 ?_
          refine ao_iload_n 3 dX4_tryStatement_56 rfl rfl ?_
          refine ao_aload_n 0 dX4_tryStatement_57 rfl rfl ?_
          refine an_getR r0 4 1 (q := (RX4, TX4, 3)) dX4_tryStatement_58 rfl hk1 (Nat.le_of_ble_eq_true rfl) rfl lf_X4_23 hj5 ?_
          refine an_getI j5 1 4 (q := (RX1, TX1, 6)) dX4_tryStatement_61 rfl hk6 (Nat.le_of_ble_eq_true rfl) rfl lf_X4_106 ?_
          obtain ⟨p16, hp16, h⟩ := ao_bind h
          refine an_callVv j5 1 (q := (RX1, TX1, 6)) [.int v8, .int (p14.2 j5 4)] (aX1_setFirst (d - 1) (by omega) j5 v8 (p14.2 j5 4) p14.2 ρ hp16) dX4_tryStatement_64 lc_X4_109 li_X1_setFirst ls_X1_setFirst rfl hk6 rfl rfl (Nat.le_of_ble_eq_true rfl) (ao_hR (by omega) (by decide)) ?_
          refine ao_aload_n 0 dX4_tryStatement_67 rfl rfl ?_
          refine an_getR r0 4 1 (q := (RX4, TX4, 3)) dX4_tryStatement_68 rfl hk1 (Nat.le_of_ble_eq_true rfl) rfl lf_X4_23 hj5 ?_
          refine ao_iload_n 3 dX4_tryStatement_71 rfl rfl ?_
          refine ao_aload_n 0 dX4_tryStatement_72 rfl rfl ?_
          refine an_getR r0 4 0 (q := (RX4, TX4, 3)) dX4_tryStatement_73 rfl hk1 (Nat.le_of_ble_eq_true rfl) rfl lf_X4_12 hj2 ?_
          refine an_getI j2 9 10 (q := (RX9, TX9, 11)) dX4_tryStatement_76 rfl hk3 (Nat.le_of_ble_eq_true rfl) rfl lf_X4_90 ?_
          obtain ⟨p17, hp17, h⟩ := ao_bind h
          refine an_callVv j5 1 (q := (RX1, TX1, 6)) [.int v8, .int (p16 j2 10)] (aX1_setSecond (d - 1) (by omega) j5 v8 (p16 j2 10) p16 ρ hp17) dX4_tryStatement_79 lc_X4_116 li_X1_setSecond ls_X1_setSecond rfl hk6 rfl rfl (Nat.le_of_ble_eq_true rfl) (ao_hR (by omega) (by decide)) ?_
          refine ao_aload_n 0 dX4_tryStatement_82 rfl rfl ?_
          refine ao_iconst (v := 3) dX4_tryStatement_83 (by decide) ?_
          obtain ⟨p18, hp18, h⟩ := ao_bind h
          refine an_callVi r0 4 (q := (RX4, TX4, 3)) [.int (3 : Int32)] (aX4_expect (d - 1) (by omega) _ r0 (3 : Int32) p17 ρ hp18) dX4_tryStatement_84 lc_X4_55 li_X4_expect ls_X4_expect rfl hk1 rfl rfl (Nat.le_of_ble_eq_true rfl) (ao_hR (by omega) (by decide)) ?_
          refine ao_if_eq 99 dX4_tryStatement_87 (by decide) (fun c19 => ?_) (fun c19 => ?_)
          · replace h := ao_ifT h c19
            refine ao_iconst (v := 0) dX4_tryStatement_99 (by decide) ?_
            cases h
            exact ao_ireturn dX4_tryStatement_100 rfl rfl ⟨rfl, rfl⟩
          · replace h := ao_ifF h c19
            refine ao_aload_n 0 dX4_tryStatement_90 rfl rfl ?_
            refine ao_iload_n 1 dX4_tryStatement_91 rfl rfl ?_
            refine ao_iload_n 2 dX4_tryStatement_92 rfl rfl ?_
            obtain ⟨p20, hp20, h⟩ := ao_bind h
            have hAp20 : ao_A Γ uX4_block (d - 1) 0 0 [.ref (Γ.2.2.2 + r0), .int x1, .int x2] (p18.2, ρ) (ao_PI ρ p20) := by
              refine ao_of (by decide) (ao_cat1 (Nat.le_of_ble_eq_true rfl)) (Nat.le_of_ble_eq_true rfl) ?_
              show ao_W Γ uX4_block (ao_rm (d - 1) 0 0) (ao_Q Γ (ao_PI ρ p20) 0 0) 0 0 0 [some (.ref (Γ.2.2.2 + r0)), some (.int x1), some (.int x2)] [] (p18.2, ρ)
              exact ih.2.2.1 (e - 1) (d - 1) (by omega) r0 x1 x2 p18.2 _ hp20
            refine an_callVi r0 4 (q := (RX4, TX4, 3)) [.int x1, .int x2] hAp20 dX4_tryStatement_93 lc_X4_103 li_X4_block ls_X4_block rfl hk1 rfl rfl (Nat.le_of_ble_eq_true rfl) (ao_hR (by omega) (by decide)) ?_
            refine ao_if_ne 101 dX4_tryStatement_96 (by decide) (fun c21 => ?_) (fun c21 => ?_)
            · replace h := ao_ifF h c21
              refine ao_aload_n 0 dX4_tryStatement_101 rfl rfl ?_
              refine an_getR r0 4 1 (q := (RX4, TX4, 3)) dX4_tryStatement_102 rfl hk1 (Nat.le_of_ble_eq_true rfl) rfl lf_X4_23 hj5 ?_
              refine ao_iload 4 dX4_tryStatement_105 rfl ?_
              refine ao_aload_n 0 dX4_tryStatement_107 rfl rfl ?_
              refine an_getR r0 4 1 (q := (RX4, TX4, 3)) dX4_tryStatement_108 rfl hk1 (Nat.le_of_ble_eq_true rfl) rfl lf_X4_23 hj5 ?_
              refine an_getI j5 1 4 (q := (RX1, TX1, 6)) dX4_tryStatement_111 rfl hk6 (Nat.le_of_ble_eq_true rfl) rfl lf_X4_106 ?_
              obtain ⟨p22, hp22, h⟩ := ao_bind h
              refine an_callVv j5 1 (q := (RX1, TX1, 6)) [.int v13, .int (p20.2 j5 4)] (aX1_setFirst (d - 1) (by omega) j5 v13 (p20.2 j5 4) p20.2 ρ hp22) dX4_tryStatement_114 lc_X4_109 li_X1_setFirst ls_X1_setFirst rfl hk6 rfl rfl (Nat.le_of_ble_eq_true rfl) (ao_hR (by omega) (by decide)) ?_
              refine ao_iconst (v := 1) dX4_tryStatement_117 (by decide) ?_
              cases h
              exact ao_ireturn dX4_tryStatement_118 rfl rfl ⟨rfl, rfl⟩
            · replace h := ao_ifT h c21
              refine ao_iconst (v := 0) dX4_tryStatement_99 (by decide) ?_
              cases h
              exact ao_ireturn dX4_tryStatement_100 rfl rfl ⟨rfl, rfl⟩
        · replace h := ao_ifT h c15
          refine ao_iconst (v := 0) dX4_tryStatement_50 (by decide) ?_
          cases h
          exact ao_ireturn dX4_tryStatement_51 rfl rfl ⟨rfl, rfl⟩
      · replace h := ao_ifT h c11
        refine ao_iconst (v := 0) dX4_tryStatement_27 (by decide) ?_
        cases h
        exact ao_ireturn dX4_tryStatement_28 rfl rfl ⟨rfl, rfl⟩
def gX4_statements (n : Nat) (r0 : Nat) (x1 : Int32) (x2 : Int32) (M : ao_M) (ρ : ao_H) : Option (Int32 × ao_M) := fGS n 64 0 r0 x1 x2 0 0 M ρ
set_option maxRecDepth 100000 in
set_option maxHeartbeats 4000000 in
theorem aX4_statements {Γ : ao_C} (d : Nat) (hd : 133 ≤ d) (n : Nat) (r0 : Nat) (x1 : Int32) (x2 : Int32) (M : ao_M) (ρ : ao_H) {y : Int32 × ao_M} (h : gX4_statements n r0 x1 x2 M ρ = some y) : ao_A Γ uX4_statements d 0 0 [.ref (Γ.2.2.2 + r0), .int x1, .int x2] (M, ρ) (ao_PI ρ y) := by
  refine ao_of (by decide) (ao_cat1 (Nat.le_of_ble_eq_true rfl)) (Nat.le_of_ble_eq_true rfl) ?_
  show ao_W Γ uX4_statements (ao_rm d 0 0) (ao_Q Γ (ao_PI ρ y) 0 0) 0 0 0 [some (.ref (Γ.2.2.2 + r0)), some (.int x1), some (.int x2), none] [] (M, ρ)
  exact (wGS n).1 64 d hd r0 x1 x2 M y h
def gX4_block (n : Nat) (r0 : Nat) (x1 : Int32) (x2 : Int32) (M : ao_M) (ρ : ao_H) : Option (Int32 × ao_M) := fGS n 64 1000 r0 x1 x2 0 0 M ρ
set_option maxRecDepth 100000 in
set_option maxHeartbeats 4000000 in
theorem aX4_block {Γ : ao_C} (d : Nat) (hd : 133 ≤ d) (n : Nat) (r0 : Nat) (x1 : Int32) (x2 : Int32) (M : ao_M) (ρ : ao_H) {y : Int32 × ao_M} (h : gX4_block n r0 x1 x2 M ρ = some y) : ao_A Γ uX4_block d 0 0 [.ref (Γ.2.2.2 + r0), .int x1, .int x2] (M, ρ) (ao_PI ρ y) := by
  refine ao_of (by decide) (ao_cat1 (Nat.le_of_ble_eq_true rfl)) (Nat.le_of_ble_eq_true rfl) ?_
  show ao_W Γ uX4_block (ao_rm d 0 0) (ao_Q Γ (ao_PI ρ y) 0 0) 0 0 0 [some (.ref (Γ.2.2.2 + r0)), some (.int x1), some (.int x2)] [] (M, ρ)
  exact (wGS n).2.2.1 64 d hd r0 x1 x2 M y h
def gX4_statement (n : Nat) (r0 : Nat) (x1 : Int32) (x2 : Int32) (M : ao_M) (ρ : ao_H) : Option (Int32 × ao_M) := fGS n 64 2000 r0 x1 x2 0 0 M ρ
set_option maxRecDepth 100000 in
set_option maxHeartbeats 4000000 in
theorem aX4_statement {Γ : ao_C} (d : Nat) (hd : 133 ≤ d) (n : Nat) (r0 : Nat) (x1 : Int32) (x2 : Int32) (M : ao_M) (ρ : ao_H) {y : Int32 × ao_M} (h : gX4_statement n r0 x1 x2 M ρ = some y) : ao_A Γ uX4_statement d 0 0 [.ref (Γ.2.2.2 + r0), .int x1, .int x2] (M, ρ) (ao_PI ρ y) := by
  refine ao_of (by decide) (ao_cat1 (Nat.le_of_ble_eq_true rfl)) (Nat.le_of_ble_eq_true rfl) ?_
  show ao_W Γ uX4_statement (ao_rm d 0 0) (ao_Q Γ (ao_PI ρ y) 0 0) 0 0 0 [some (.ref (Γ.2.2.2 + r0)), some (.int x1), some (.int x2)] [] (M, ρ)
  exact (wGS n).2.2.2.1 64 d hd r0 x1 x2 M y h
def gX4_ifStatement (n : Nat) (r0 : Nat) (x1 : Int32) (x2 : Int32) (M : ao_M) (ρ : ao_H) : Option (Int32 × ao_M) := fGS n 64 3000 r0 x1 x2 0 0 M ρ
set_option maxRecDepth 100000 in
set_option maxHeartbeats 4000000 in
theorem aX4_ifStatement {Γ : ao_C} (d : Nat) (hd : 133 ≤ d) (n : Nat) (r0 : Nat) (x1 : Int32) (x2 : Int32) (M : ao_M) (ρ : ao_H) {y : Int32 × ao_M} (h : gX4_ifStatement n r0 x1 x2 M ρ = some y) : ao_A Γ uX4_ifStatement d 0 0 [.ref (Γ.2.2.2 + r0), .int x1, .int x2] (M, ρ) (ao_PI ρ y) := by
  refine ao_of (by decide) (ao_cat1 (Nat.le_of_ble_eq_true rfl)) (Nat.le_of_ble_eq_true rfl) ?_
  show ao_W Γ uX4_ifStatement (ao_rm d 0 0) (ao_Q Γ (ao_PI ρ y) 0 0) 0 0 0 [some (.ref (Γ.2.2.2 + r0)), some (.int x1), some (.int x2), none, none] [] (M, ρ)
  exact (wGS n).2.2.2.2.2.1 64 d hd r0 x1 x2 M y h
def gX4_whileStatement (n : Nat) (r0 : Nat) (x1 : Int32) (x2 : Int32) (M : ao_M) (ρ : ao_H) : Option (Int32 × ao_M) := fGS n 64 4000 r0 x1 x2 0 0 M ρ
set_option maxRecDepth 100000 in
set_option maxHeartbeats 4000000 in
theorem aX4_whileStatement {Γ : ao_C} (d : Nat) (hd : 133 ≤ d) (n : Nat) (r0 : Nat) (x1 : Int32) (x2 : Int32) (M : ao_M) (ρ : ao_H) {y : Int32 × ao_M} (h : gX4_whileStatement n r0 x1 x2 M ρ = some y) : ao_A Γ uX4_whileStatement d 0 0 [.ref (Γ.2.2.2 + r0), .int x1, .int x2] (M, ρ) (ao_PI ρ y) := by
  refine ao_of (by decide) (ao_cat1 (Nat.le_of_ble_eq_true rfl)) (Nat.le_of_ble_eq_true rfl) ?_
  show ao_W Γ uX4_whileStatement (ao_rm d 0 0) (ao_Q Γ (ao_PI ρ y) 0 0) 0 0 0 [some (.ref (Γ.2.2.2 + r0)), some (.int x1), some (.int x2), none, none] [] (M, ρ)
  exact (wGS n).2.2.2.2.2.2.1 64 d hd r0 x1 x2 M y h
def gX4_levelStatement (n : Nat) (r0 : Nat) (x1 : Int32) (x2 : Int32) (M : ao_M) (ρ : ao_H) : Option (Int32 × ao_M) := fGS n 64 5000 r0 x1 x2 0 0 M ρ
set_option maxRecDepth 100000 in
set_option maxHeartbeats 4000000 in
theorem aX4_levelStatement {Γ : ao_C} (d : Nat) (hd : 133 ≤ d) (n : Nat) (r0 : Nat) (x1 : Int32) (x2 : Int32) (M : ao_M) (ρ : ao_H) {y : Int32 × ao_M} (h : gX4_levelStatement n r0 x1 x2 M ρ = some y) : ao_A Γ uX4_levelStatement d 0 0 [.ref (Γ.2.2.2 + r0), .int x1, .int x2] (M, ρ) (ao_PI ρ y) := by
  refine ao_of (by decide) (ao_cat1 (Nat.le_of_ble_eq_true rfl)) (Nat.le_of_ble_eq_true rfl) ?_
  show ao_W Γ uX4_levelStatement (ao_rm d 0 0) (ao_Q Γ (ao_PI ρ y) 0 0) 0 0 0 [some (.ref (Γ.2.2.2 + r0)), some (.int x1), some (.int x2), none, none] [] (M, ρ)
  exact (wGS n).2.2.2.2.2.2.2.1 64 d hd r0 x1 x2 M y h
def gX4_tryStatement (n : Nat) (r0 : Nat) (x1 : Int32) (x2 : Int32) (M : ao_M) (ρ : ao_H) : Option (Int32 × ao_M) := fGS n 64 6000 r0 x1 x2 0 0 M ρ
set_option maxRecDepth 100000 in
set_option maxHeartbeats 4000000 in
theorem aX4_tryStatement {Γ : ao_C} (d : Nat) (hd : 133 ≤ d) (n : Nat) (r0 : Nat) (x1 : Int32) (x2 : Int32) (M : ao_M) (ρ : ao_H) {y : Int32 × ao_M} (h : gX4_tryStatement n r0 x1 x2 M ρ = some y) : ao_A Γ uX4_tryStatement d 0 0 [.ref (Γ.2.2.2 + r0), .int x1, .int x2] (M, ρ) (ao_PI ρ y) := by
  refine ao_of (by decide) (ao_cat1 (Nat.le_of_ble_eq_true rfl)) (Nat.le_of_ble_eq_true rfl) ?_
  show ao_W Γ uX4_tryStatement (ao_rm d 0 0) (ao_Q Γ (ao_PI ρ y) 0 0) 0 0 0 [some (.ref (Γ.2.2.2 + r0)), some (.int x1), some (.int x2), none, none] [] (M, ρ)
  exact (wGS n).2.2.2.2.2.2.2.2.2 64 d hd r0 x1 x2 M y h
