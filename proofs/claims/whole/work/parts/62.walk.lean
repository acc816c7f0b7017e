abbrev uX4_expression : ao_Mi := (yX4_expression, cX4_expression, 3, (some .boolean), [])
abbrev uX4_sum : ao_Mi := (yX4_sum, cX4_sum, 4, (some .boolean), [])
abbrev uX4_product : ao_Mi := (yX4_product, cX4_product, 3, (some .boolean), [])
abbrev uX4_simple : ao_Mi := (yX4_simple, cX4_simple, 2, (some .boolean), [])
def fGX : Nat → Nat → Nat → Nat → Int32 → Int32 → Int32 → Int32 → Nat →  ao_M → ao_H → Option (Int32 × ao_M)
  | 0, _, _, _, _, _, _, _, _, _, _ => none
  | n + 1, e, pc, r0, x1, x2, x3, s0, q1, M, ρ =>
    if pc = 0 then
      if ρ.2.1 r0 = 14 then
      if 0 < e then
      (fGX n (e - 1) 1000 r0 x1 0 0 0 0 M ρ).bind fun p2 =>
      if p2.1 = 0 then
        some ((0 : Int32), p2.2)
      else
        (ρ.1 r0 0).bind fun j5 =>
        if ρ.2.1 j5 = 19 then
        ao_let (p2.2 j5 8) fun v7 =>
        if v7 = (23 : Int32) then
          fGX n e 32 r0 x1 v7 0 0 0 p2.2 ρ
        else
          if v7 = (24 : Int32) then
            fGX n e 32 r0 x1 v7 0 0 0 p2.2 ρ
          else
            some ((1 : Int32), p2.2)
        else none
      else none
      else none
    else if pc = 32 then
      if ρ.2.1 r0 = 14 then
      (ρ.1 r0 0).bind fun j11 =>
      if ρ.2.1 j11 = 19 then
      (gX9_advance n j11 M ρ).bind fun p13 =>
      if 0 < e then
      (fGX n (e - 1) 1000 r0 x1 0 0 0 0 p13 ρ).bind fun p14 =>
      if p14.1 = 0 then
        some ((0 : Int32), p14.2)
      else
        (ρ.1 r0 1).bind fun j17 =>
        if x2 = (23 : Int32) then
          fGX n e 66 r0 x1 x2 0 (7 : Int32) j17 p14.2 ρ
        else
          fGX n e 66 r0 x1 x2 0 (8 : Int32) j17 p14.2 ρ
      else none
      else none
      else none
    else if pc = 66 then
      if ρ.2.1 q1 = 11 then
      (gX1_add q1 s0 (0 : Int32) M ρ).bind fun p20 =>
      some ((1 : Int32), p20.2)
      else none
    else if pc = 1000 then
      if ρ.2.1 r0 = 14 then
      if 0 < e then
      (fGX n (e - 1) 2000 r0 x1 0 0 0 0 M ρ).bind fun p2 =>
      if p2.1 = 0 then
        some ((0 : Int32), p2.2)
      else
        fGX n e 1012 r0 x1 (0 : Int32) 0 0 0 p2.2 ρ
      else none
      else none
    else if pc = 1012 then
      if (1000 : Int32) < x2 then
        if ρ.2.1 r0 = 14 then
        (gX4_broken r0 M ρ).bind fun p7 =>
        if p7.1 = 0 ∨ p7.1 = 1 then
        some (p7.1, p7.2)
        else none
        else none
      else
        if ρ.2.1 r0 = 14 then
        (ρ.1 r0 0).bind fun j10 =>
        if ρ.2.1 j10 = 19 then
        ao_let (M j10 8) fun v12 =>
        if v12 = (25 : Int32) then
          fGX n e 1041 r0 x1 x2 v12 0 0 M ρ
        else
          if v12 = (26 : Int32) then
            fGX n e 1041 r0 x1 x2 v12 0 0 M ρ
          else
            some ((1 : Int32), M)
        else none
        else none
    else if pc = 1041 then
      if ρ.2.1 r0 = 14 then
      (ρ.1 r0 0).bind fun j16 =>
      if ρ.2.1 j16 = 19 then
      (gX9_advance n j16 M ρ).bind fun p18 =>
      if 0 < e then
      (fGX n (e - 1) 2000 r0 x1 0 0 0 0 p18 ρ).bind fun p19 =>
      if p19.1 = 0 then
        some ((0 : Int32), p19.2)
      else
        (ρ.1 r0 1).bind fun j22 =>
        if x3 = (25 : Int32) then
          fGX n e 1073 r0 x1 x2 x3 (4 : Int32) j22 p19.2 ρ
        else
          fGX n e 1073 r0 x1 x2 x3 (5 : Int32) j22 p19.2 ρ
      else none
      else none
      else none
    else if pc = 1073 then
      if ρ.2.1 q1 = 11 then
      (gX1_add q1 s0 (0 : Int32) M ρ).bind fun p25 =>
      ao_let (x2 + (1 : Int32)) fun v26 =>
      fGX n e 1012 r0 x1 v26 0 0 0 p25.2 ρ
      else none
    else if pc = 2000 then
      if ρ.2.1 r0 = 14 then
      if 0 < e then
      (fGX n (e - 1) 3000 r0 x1 0 0 0 0 M ρ).bind fun p2 =>
      if p2.1 = 0 then
        some ((0 : Int32), p2.2)
      else
        fGX n e 2012 r0 x1 (0 : Int32) 0 0 0 p2.2 ρ
      else none
      else none
    else if pc = 2012 then
      if (1000 : Int32) < x2 then
        if ρ.2.1 r0 = 14 then
        (gX4_broken r0 M ρ).bind fun p7 =>
        if p7.1 = 0 ∨ p7.1 = 1 then
        some (p7.1, p7.2)
        else none
        else none
      else
        if ρ.2.1 r0 = 14 then
        (ρ.1 r0 0).bind fun j10 =>
        if ρ.2.1 j10 = 19 then
        if (M j10 8) = (27 : Int32) then
          (gX9_advance n j10 M ρ).bind fun p13 =>
          if 0 < e then
          (fGX n (e - 1) 3000 r0 x1 0 0 0 0 p13 ρ).bind fun p14 =>
          if p14.1 = 0 then
            some ((0 : Int32), p14.2)
          else
            (ρ.1 r0 1).bind fun j17 =>
            if ρ.2.1 j17 = 11 then
            (gX1_add j17 (6 : Int32) (0 : Int32) p14.2 ρ).bind fun p19 =>
            ao_let (x2 + (1 : Int32)) fun v20 =>
            fGX n e 2012 r0 x1 v20 0 0 0 p19.2 ρ
            else none
          else none
        else
          some ((1 : Int32), M)
        else none
        else none
    else if pc = 3000 then
      if ρ.2.1 r0 = 14 then
      (ρ.1 r0 0).bind fun j2 =>
      if ρ.2.1 j2 = 19 then
      ao_let (M j2 8) fun v4 =>
      if v4 = (2 : Int32) then
        (gX4_leaf n r0 (3 : Int32) M ρ).bind fun p6 =>
        if p6.1 = 0 ∨ p6.1 = 1 then
        some (p6.1, p6.2)
        else none
      else
        if v4 = (3 : Int32) then
          (gX4_leaf n r0 (2 : Int32) M ρ).bind fun p9 =>
          if p9.1 = 0 ∨ p9.1 = 1 then
          some (p9.1, p9.2)
          else none
        else
          if v4 = (4 : Int32) then
            (gX4_leaf n r0 (1 : Int32) M ρ).bind fun p12 =>
            if p12.1 = 0 ∨ p12.1 = 1 then
            some (p12.1, p12.2)
            else none
          else
            if v4 = (26 : Int32) then
              (gX4_expectNested n r0 (26 : Int32) x1 M ρ).bind fun p15 =>
              if p15.1 = 0 then
                some ((0 : Int32), p15.2)
              else
                if 0 < e then
                (fGX n (e - 1) 3000 r0 (x1 + (1 : Int32)) 0 0 0 0 p15.2 ρ).bind fun p17 =>
                if p17.1 = 0 then
                  some ((0 : Int32), p17.2)
                else
                  (ρ.1 r0 1).bind fun j20 =>
                  if ρ.2.1 j20 = 11 then
                  (gX1_add j20 (9 : Int32) (0 : Int32) p17.2 ρ).bind fun p22 =>
                  some ((1 : Int32), p22.2)
                  else none
                else none
            else
              (gX4_expectNested n r0 (19 : Int32) x1 M ρ).bind fun p23 =>
              if p23.1 = 0 then
                some ((0 : Int32), p23.2)
              else
                if 0 < e then
                (fGX n (e - 1) 0 r0 (x1 + (1 : Int32)) 0 0 0 0 p23.2 ρ).bind fun p25 =>
                if p25.1 = 0 then
                  some ((0 : Int32), p25.2)
                else
                  (gX4_expect n r0 (20 : Int32) p25.2 ρ).bind fun p28 =>
                  if p28.1 = 0 then
                    some ((0 : Int32), p28.2)
                  else
                    some ((1 : Int32), p28.2)
                else none
      else none
      else none
    else none
set_option maxRecDepth 100000 in
set_option maxHeartbeats 4000000 in
theorem wGX {Γ : ao_C} {ρ : ao_H} : ∀ n : Nat, (∀ (e d : Nat) (hd : 3 + e ≤ d) (r0 : Nat) (x1 : Int32) (M : ao_M) (y : Int32 × ao_M), fGX n e 0 r0 x1 0 0 0 0 M ρ = some y → ao_W Γ uX4_expression (ao_rm d 0 0) (ao_Q Γ (ao_PI ρ y) 0 0) 0 0 0 [some (.ref (Γ.2.2.2 + r0)), some (.int x1), none] [] (M, ρ)) ∧ (∀ (e d : Nat) (hd : 3 + e ≤ d) (r0 : Nat) (x1 : Int32) (x2 : Int32) (M : ao_M) (y : Int32 × ao_M), fGX n e 32 r0 x1 x2 0 0 0 M ρ = some y → ao_W Γ uX4_expression (ao_rm d 0 0) (ao_Q Γ (ao_PI ρ y) 0 0) 0 0 32 [some (.ref (Γ.2.2.2 + r0)), some (.int x1), some (.int x2)] [] (M, ρ)) ∧ (∀ (e d : Nat) (hd : 3 + e ≤ d) (r0 : Nat) (x1 : Int32) (x2 : Int32) (s0 : Int32) (q1 : Nat) (M : ao_M) (y : Int32 × ao_M), fGX n e 66 r0 x1 x2 0 s0 q1 M ρ = some y → ao_W Γ uX4_expression (ao_rm d 0 0) (ao_Q Γ (ao_PI ρ y) 0 0) 0 0 66 [some (.ref (Γ.2.2.2 + r0)), some (.int x1), some (.int x2)] [.int s0, .ref (Γ.2.2.2 + q1)] (M, ρ)) ∧ (∀ (e d : Nat) (hd : 3 + e ≤ d) (r0 : Nat) (x1 : Int32) (M : ao_M) (y : Int32 × ao_M), fGX n e 1000 r0 x1 0 0 0 0 M ρ = some y → ao_W Γ uX4_sum (ao_rm d 0 0) (ao_Q Γ (ao_PI ρ y) 0 0) 0 0 0 [some (.ref (Γ.2.2.2 + r0)), some (.int x1), none, none] [] (M, ρ)) ∧ (∀ (e d : Nat) (hd : 3 + e ≤ d) (r0 : Nat) (x1 : Int32) (x2 : Int32) (M : ao_M) (y : Int32 × ao_M), fGX n e 1012 r0 x1 x2 0 0 0 M ρ = some y → ao_W Γ uX4_sum (ao_rm d 0 0) (ao_Q Γ (ao_PI ρ y) 0 0) 0 0 12 [some (.ref (Γ.2.2.2 + r0)), some (.int x1), some (.int x2), none] [] (M, ρ)) ∧ (∀ (e d : Nat) (hd : 3 + e ≤ d) (r0 : Nat) (x1 : Int32) (x2 : Int32) (x3 : Int32) (M : ao_M) (y : Int32 × ao_M), fGX n e 1041 r0 x1 x2 x3 0 0 M ρ = some y → ao_W Γ uX4_sum (ao_rm d 0 0) (ao_Q Γ (ao_PI ρ y) 0 0) 0 0 41 [some (.ref (Γ.2.2.2 + r0)), some (.int x1), some (.int x2), some (.int x3)] [] (M, ρ)) ∧ (∀ (e d : Nat) (hd : 3 + e ≤ d) (r0 : Nat) (x1 : Int32) (x2 : Int32) (x3 : Int32) (s0 : Int32) (q1 : Nat) (M : ao_M) (y : Int32 × ao_M), fGX n e 1073 r0 x1 x2 x3 s0 q1 M ρ = some y → ao_W Γ uX4_sum (ao_rm d 0 0) (ao_Q Γ (ao_PI ρ y) 0 0) 0 0 73 [some (.ref (Γ.2.2.2 + r0)), some (.int x1), some (.int x2), some (.int x3)] [.int s0, .ref (Γ.2.2.2 + q1)] (M, ρ)) ∧ (∀ (e d : Nat) (hd : 3 + e ≤ d) (r0 : Nat) (x1 : Int32) (M : ao_M) (y : Int32 × ao_M), fGX n e 2000 r0 x1 0 0 0 0 M ρ = some y → ao_W Γ uX4_product (ao_rm d 0 0) (ao_Q Γ (ao_PI ρ y) 0 0) 0 0 0 [some (.ref (Γ.2.2.2 + r0)), some (.int x1), none] [] (M, ρ)) ∧ (∀ (e d : Nat) (hd : 3 + e ≤ d) (r0 : Nat) (x1 : Int32) (x2 : Int32) (M : ao_M) (y : Int32 × ao_M), fGX n e 2012 r0 x1 x2 0 0 0 M ρ = some y → ao_W Γ uX4_product (ao_rm d 0 0) (ao_Q Γ (ao_PI ρ y) 0 0) 0 0 12 [some (.ref (Γ.2.2.2 + r0)), some (.int x1), some (.int x2)] [] (M, ρ)) ∧ (∀ (e d : Nat) (hd : 3 + e ≤ d) (r0 : Nat) (x1 : Int32) (M : ao_M) (y : Int32 × ao_M), fGX n e 3000 r0 x1 0 0 0 0 M ρ = some y → ao_W Γ uX4_simple (ao_rm d 0 0) (ao_Q Γ (ao_PI ρ y) 0 0) 0 0 0 [some (.ref (Γ.2.2.2 + r0)), some (.int x1)] [] (M, ρ)) := by
  intro n
  induction n with
  | zero => exact ⟨fun _ _ _ _ _ _ _ h => ao_no h, fun _ _ _ _ _ _ _ _ h => ao_no h, fun _ _ _ _ _ _ _ _ _ _ h => ao_no h, fun _ _ _ _ _ _ _ h => ao_no h, fun _ _ _ _ _ _ _ _ h => ao_no h, fun _ _ _ _ _ _ _ _ _ h => ao_no h, fun _ _ _ _ _ _ _ _ _ _ _ h => ao_no h, fun _ _ _ _ _ _ _ h => ao_no h, fun _ _ _ _ _ _ _ _ h => ao_no h, fun _ _ _ _ _ _ _ h => ao_no h⟩
  | succ n ih =>
    refine ⟨?_, ?_, ?_, ?_, ?_, ?_, ?_, ?_, ?_, ?_⟩
    · intro e d hd r0 x1 M y h
      replace h := ao_ifT h rfl
      refine ao_aload_n 0 dX4_expression_0 rfl rfl ?_
      refine ao_iload_n 1 dX4_expression_1 rfl rfl ?_
      obtain ⟨hk1, h⟩ := ao_some h
      obtain ⟨he3, h⟩ := ao_some h
      obtain ⟨p2, hp2, h⟩ := ao_bind h
      have hAp2 : ao_A Γ uX4_sum (d - 1) 0 0 [.ref (Γ.2.2.2 + r0), .int x1] (M, ρ) (ao_PI ρ p2) := by
        refine ao_of (by decide) (ao_cat1 (Nat.le_of_ble_eq_true rfl)) (Nat.le_of_ble_eq_true rfl) ?_
        show ao_W Γ uX4_sum (ao_rm (d - 1) 0 0) (ao_Q Γ (ao_PI ρ p2) 0 0) 0 0 0 [some (.ref (Γ.2.2.2 + r0)), some (.int x1), none, none] [] (M, ρ)
        exact ih.2.2.2.1 (e - 1) (d - 1) (by omega) r0 x1 M _ hp2
      refine an_callVi r0 4 (q := (RX4, TX4, 3)) [.int x1] hAp2 dX4_expression_2 lc_X4_119 li_X4_sum ls_X4_sum rfl hk1 rfl rfl (Nat.le_of_ble_eq_true rfl) (ao_hR (by omega) (by decide)) ?_
      refine ao_if_ne 10 dX4_expression_5 (by decide) (fun c4 => ?_) (fun c4 => ?_)
      · replace h := ao_ifF h c4
        refine ao_aload_n 0 dX4_expression_10 rfl rfl ?_
        obtain ⟨j5, hj5, h⟩ := ao_bind h
        refine an_getR r0 4 0 (q := (RX4, TX4, 3)) dX4_expression_11 rfl hk1 (Nat.le_of_ble_eq_true rfl) rfl lf_X4_12 hj5 ?_
        obtain ⟨hk6, h⟩ := ao_some h
        refine an_getI j5 9 8 (q := (RX9, TX9, 11)) dX4_expression_14 rfl hk6 (Nat.le_of_ble_eq_true rfl) rfl lf_X4_42 ?_
        refine an_topi (fun v7 hv7 => ?_)
        replace h := ao_letD h hv7
        refine ao_istore_n 2 (lo' := [some (.ref (Γ.2.2.2 + r0)), some (.int x1), some (.int v7)]) dX4_expression_17 rfl (Nat.le_of_ble_eq_true rfl) rfl ?_
        refine ao_iload_n 2 dX4_expression_18 rfl rfl ?_
        refine ao_bipush (v := 23) dX4_expression_19 (by decide) ?_
        refine ao_icmp_eq 32 dX4_expression_21 (by decide) (fun c8 => ?_) (fun c8 => ?_)
        · replace h := ao_ifT h c8
          exact ih.2.1 e d hd r0 x1 v7 p2.2 _ h
        · replace h := ao_ifF h c8
          refine ao_iload_n 2 dX4_expression_24 rfl rfl ?_
          refine ao_bipush (v := 24) dX4_expression_25 (by decide) ?_
          refine ao_icmp_eq 32 dX4_expression_27 (by decide) (fun c9 => ?_) (fun c9 => ?_)
          · replace h := ao_ifT h c9
            exact ih.2.1 e d hd r0 x1 v7 p2.2 _ h
          · replace h := ao_ifF h c9
            refine ao_iconst (v := 1) dX4_expression_30 (by decide) ?_
            cases h
            exact ao_ireturn dX4_expression_31 rfl rfl ⟨rfl, rfl⟩
      · replace h := ao_ifT h c4
        refine ao_iconst (v := 0) dX4_expression_8 (by decide) ?_
        cases h
        exact ao_ireturn dX4_expression_9 rfl rfl ⟨rfl, rfl⟩
    · intro e d hd r0 x1 x2 M y h
      replace h := ao_ifF h (by decide)
      replace h := ao_ifT h rfl
      refine ao_aload_n 0 dX4_expression_32 rfl rfl ?_
      obtain ⟨hk10, h⟩ := ao_some h
      obtain ⟨j11, hj11, h⟩ := ao_bind h
      refine an_getR r0 4 0 (q := (RX4, TX4, 3)) dX4_expression_33 rfl hk10 (Nat.le_of_ble_eq_true rfl) rfl lf_X4_12 hj11 ?_
      obtain ⟨hk12, h⟩ := ao_some h
      obtain ⟨p13, hp13, h⟩ := ao_bind h
      refine an_callVv j11 9 (q := (RX9, TX9, 11)) [] (aX9_advance (d - 1) (by omega) _ j11 M ρ hp13) dX4_expression_36 lc_X4_52 li_X9_advance ls_X9_advance rfl hk12 rfl rfl (Nat.le_of_ble_eq_true rfl) (ao_hR (by omega) (by decide)) ?_
      refine ao_aload_n 0 dX4_expression_39 rfl rfl ?_
      refine ao_iload_n 1 dX4_expression_40 rfl rfl ?_
      obtain ⟨he15, h⟩ := ao_some h
      obtain ⟨p14, hp14, h⟩ := ao_bind h
      have hAp14 : ao_A Γ uX4_sum (d - 1) 0 0 [.ref (Γ.2.2.2 + r0), .int x1] (p13, ρ) (ao_PI ρ p14) := by
        refine ao_of (by decide) (ao_cat1 (Nat.le_of_ble_eq_true rfl)) (Nat.le_of_ble_eq_true rfl) ?_
        show ao_W Γ uX4_sum (ao_rm (d - 1) 0 0) (ao_Q Γ (ao_PI ρ p14) 0 0) 0 0 0 [some (.ref (Γ.2.2.2 + r0)), some (.int x1), none, none] [] (p13, ρ)
        exact ih.2.2.2.1 (e - 1) (d - 1) (by omega) r0 x1 p13 _ hp14
      refine an_callVi r0 4 (q := (RX4, TX4, 3)) [.int x1] hAp14 dX4_expression_41 lc_X4_119 li_X4_sum ls_X4_sum rfl hk10 rfl rfl (Nat.le_of_ble_eq_true rfl) (ao_hR (by omega) (by decide)) ?_
      refine ao_if_ne 49 dX4_expression_44 (by decide) (fun c16 => ?_) (fun c16 => ?_)
      · replace h := ao_ifF h c16
        refine ao_aload_n 0 dX4_expression_49 rfl rfl ?_
        obtain ⟨j17, hj17, h⟩ := ao_bind h
        refine an_getR r0 4 1 (q := (RX4, TX4, 3)) dX4_expression_50 rfl hk10 (Nat.le_of_ble_eq_true rfl) rfl lf_X4_23 hj17 ?_
        refine ao_iload_n 2 dX4_expression_53 rfl rfl ?_
        refine ao_bipush (v := 23) dX4_expression_54 (by decide) ?_
        refine ao_icmp_ne 64 dX4_expression_56 (by decide) (fun c18 => ?_) (fun c18 => ?_)
        · replace h := ao_ifF h c18
          refine ao_bipush (v := 8) dX4_expression_64 (by decide) ?_
          exact ih.2.2.1 e d hd r0 x1 x2 (8 : Int32) j17 p14.2 _ h
        · replace h := ao_ifT h c18
          refine ao_bipush (v := 7) dX4_expression_59 (by decide) ?_
          refine ao_goto 66 dX4_expression_61 (by decide) ?_
          exact ih.2.2.1 e d hd r0 x1 x2 (7 : Int32) j17 p14.2 _ h
      · replace h := ao_ifT h c16
        refine ao_iconst (v := 0) dX4_expression_47 (by decide) ?_
        cases h
        exact ao_ireturn dX4_expression_48 rfl rfl ⟨rfl, rfl⟩
    · intro e d hd r0 x1 x2 s0 q1 M y h
      replace h := ao_ifF h (by decide)
      replace h := ao_ifF h (by decide)
      replace h := ao_ifT h rfl
      refine ao_iconst (v := 0) dX4_expression_66 (by decide) ?_
      obtain ⟨hk19, h⟩ := ao_some h
      obtain ⟨p20, hp20, h⟩ := ao_bind h
      refine an_callVi q1 1 (q := (RX1, TX1, 6)) [.int s0, .int (0 : Int32)] (aX1_add (d - 1) (by omega) q1 s0 (0 : Int32) M ρ hp20) dX4_expression_67 lc_X4_96 li_X1_add ls_X1_add rfl hk19 rfl rfl (Nat.le_of_ble_eq_true rfl) (ao_hR (by omega) (by decide)) ?_
      refine ao_pop dX4_expression_70 rfl ?_
      refine ao_iconst (v := 1) dX4_expression_71 (by decide) ?_
      cases h
      exact ao_ireturn dX4_expression_72 rfl rfl ⟨rfl, rfl⟩
    · intro e d hd r0 x1 M y h
      replace h := ao_ifF h (by decide)
      replace h := ao_ifF h (by decide)
      replace h := ao_ifF h (by decide)
      replace h := ao_ifT h rfl
      refine ao_aload_n 0 dX4_sum_0 rfl rfl ?_
      refine ao_iload_n 1 dX4_sum_1 rfl rfl ?_
      obtain ⟨hk1, h⟩ := ao_some h
      obtain ⟨he3, h⟩ := ao_some h
      obtain ⟨p2, hp2, h⟩ := ao_bind h
      have hAp2 : ao_A Γ uX4_product (d - 1) 0 0 [.ref (Γ.2.2.2 + r0), .int x1] (M, ρ) (ao_PI ρ p2) := by
        refine ao_of (by decide) (ao_cat1 (Nat.le_of_ble_eq_true rfl)) (Nat.le_of_ble_eq_true rfl) ?_
        show ao_W Γ uX4_product (ao_rm (d - 1) 0 0) (ao_Q Γ (ao_PI ρ p2) 0 0) 0 0 0 [some (.ref (Γ.2.2.2 + r0)), some (.int x1), none] [] (M, ρ)
        exact ih.2.2.2.2.2.2.2.1 (e - 1) (d - 1) (by omega) r0 x1 M _ hp2
      refine an_callVi r0 4 (q := (RX4, TX4, 3)) [.int x1] hAp2 dX4_sum_2 lc_X4_122 li_X4_product ls_X4_product rfl hk1 rfl rfl (Nat.le_of_ble_eq_true rfl) (ao_hR (by omega) (by decide)) ?_
      refine ao_if_ne 10 dX4_sum_5 (by decide) (fun c4 => ?_) (fun c4 => ?_)
      · replace h := ao_ifF h c4
        refine ao_iconst (v := 0) dX4_sum_10 (by decide) ?_
        refine ao_istore_n 2 (lo' := [some (.ref (Γ.2.2.2 + r0)), some (.int x1), some (.int (0 : Int32)), none]) dX4_sum_11 rfl (Nat.le_of_ble_eq_true rfl) rfl ?_
        exact ih.2.2.2.2.1 e d hd r0 x1 (0 : Int32) p2.2 _ h
      · replace h := ao_ifT h c4
        refine ao_iconst (v := 0) dX4_sum_8 (by decide) ?_
        cases h
        exact ao_ireturn dX4_sum_9 rfl rfl ⟨rfl, rfl⟩
    · intro e d hd r0 x1 x2 M y h
      replace h := ao_ifF h (by decide)
      replace h := ao_ifF h (by decide)
      replace h := ao_ifF h (by decide)
      replace h := ao_ifF h (by decide)
      replace h := ao_ifT h rfl
      refine ao_iload_n 2 dX4_sum_12 rfl rfl ?_
      refine ao_sipush (v := 1000) dX4_sum_13 (by decide) ?_
      refine ao_icmp_gt 84 dX4_sum_16 (by decide) (fun c5 => ?_) (fun c5 => ?_)
      · replace h := ao_ifT h c5
        refine ao_aload_n 0 dX4_sum_84 rfl rfl ?_
        obtain ⟨hk6, h⟩ := ao_some h
        obtain ⟨p7, hp7, h⟩ := ao_bind h
        refine an_callVi r0 4 (q := (RX4, TX4, 3)) [] (aX4_broken (d - 1) (by omega) r0 M ρ hp7) dX4_sum_85 lc_X4_45 li_X4_broken ls_X4_broken rfl hk6 rfl rfl (Nat.le_of_ble_eq_true rfl) (ao_hR (by omega) (by decide)) ?_
        obtain ⟨hz8, h⟩ := ao_some h
        cases h
        exact ao_ireturn dX4_sum_88 rfl (ao_nb hz8) ⟨rfl, rfl⟩
      · replace h := ao_ifF h c5
        refine ao_aload_n 0 dX4_sum_19 rfl rfl ?_
        obtain ⟨hk9, h⟩ := ao_some h
        obtain ⟨j10, hj10, h⟩ := ao_bind h
        refine an_getR r0 4 0 (q := (RX4, TX4, 3)) dX4_sum_20 rfl hk9 (Nat.le_of_ble_eq_true rfl) rfl lf_X4_12 hj10 ?_
        obtain ⟨hk11, h⟩ := ao_some h
        refine an_getI j10 9 8 (q := (RX9, TX9, 11)) dX4_sum_23 rfl hk11 (Nat.le_of_ble_eq_true rfl) rfl lf_X4_42 ?_
        refine an_topi (fun v12 hv12 => ?_)
        replace h := ao_letD h hv12
        refine ao_istore_n 3 (lo' := [some (.ref (Γ.2.2.2 + r0)), some (.int x1), some (.int x2), some (.int v12)]) dX4_sum_26 rfl (Nat.le_of_ble_eq_true rfl) rfl ?_
        refine ao_iload_n 3 dX4_sum_27 rfl rfl ?_
        refine ao_bipush (v := 25) dX4_sum_28 (by decide) ?_
        refine ao_icmp_eq 41 dX4_sum_30 (by decide) (fun c13 => ?_) (fun c13 => ?_)
        · replace h := ao_ifT h c13
          exact ih.2.2.2.2.2.1 e d hd r0 x1 x2 v12 M _ h
        · replace h := ao_ifF h c13
          refine ao_iload_n 3 dX4_sum_33 rfl rfl ?_
          refine ao_bipush (v := 26) dX4_sum_34 (by decide) ?_
          refine ao_icmp_eq 41 dX4_sum_36 (by decide) (fun c14 => ?_) (fun c14 => ?_)
          · replace h := ao_ifT h c14
            exact ih.2.2.2.2.2.1 e d hd r0 x1 x2 v12 M _ h
          · replace h := ao_ifF h c14
            refine ao_iconst (v := 1) dX4_sum_39 (by decide) ?_
            cases h
            exact ao_ireturn dX4_sum_40 rfl rfl ⟨rfl, rfl⟩
    · intro e d hd r0 x1 x2 x3 M y h
      replace h := ao_ifF h (by decide)
      replace h := ao_ifF h (by decide)
      replace h := ao_ifF h (by decide)
      replace h := ao_ifF h (by decide)
      replace h := ao_ifF h (by decide)
      replace h := ao_ifT h rfl
      refine ao_aload_n 0 dX4_sum_41 rfl rfl ?_
      obtain ⟨hk15, h⟩ := ao_some h
      obtain ⟨j16, hj16, h⟩ := ao_bind h
      refine an_getR r0 4 0 (q := (RX4, TX4, 3)) dX4_sum_42 rfl hk15 (Nat.le_of_ble_eq_true rfl) rfl lf_X4_12 hj16 ?_
      obtain ⟨hk17, h⟩ := ao_some h
      obtain ⟨p18, hp18, h⟩ := ao_bind h
      refine an_callVv j16 9 (q := (RX9, TX9, 11)) [] (aX9_advance (d - 1) (by omega) _ j16 M ρ hp18) dX4_sum_45 lc_X4_52 li_X9_advance ls_X9_advance rfl hk17 rfl rfl (Nat.le_of_ble_eq_true rfl) (ao_hR (by omega) (by decide)) ?_
      refine ao_aload_n 0 dX4_sum_48 rfl rfl ?_
      refine ao_iload_n 1 dX4_sum_49 rfl rfl ?_
      obtain ⟨he20, h⟩ := ao_some h
      obtain ⟨p19, hp19, h⟩ := ao_bind h
      have hAp19 : ao_A Γ uX4_product (d - 1) 0 0 [.ref (Γ.2.2.2 + r0), .int x1] (p18, ρ) (ao_PI ρ p19) := by
        refine ao_of (by decide) (ao_cat1 (Nat.le_of_ble_eq_true rfl)) (Nat.le_of_ble_eq_true rfl) ?_
        show ao_W Γ uX4_product (ao_rm (d - 1) 0 0) (ao_Q Γ (ao_PI ρ p19) 0 0) 0 0 0 [some (.ref (Γ.2.2.2 + r0)), some (.int x1), none] [] (p18, ρ)
        exact ih.2.2.2.2.2.2.2.1 (e - 1) (d - 1) (by omega) r0 x1 p18 _ hp19
      refine an_callVi r0 4 (q := (RX4, TX4, 3)) [.int x1] hAp19 dX4_sum_50 lc_X4_122 li_X4_product ls_X4_product rfl hk15 rfl rfl (Nat.le_of_ble_eq_true rfl) (ao_hR (by omega) (by decide)) ?_
      refine ao_if_ne 58 dX4_sum_53 (by decide) (fun c21 => ?_) (fun c21 => ?_)
      · replace h := ao_ifF h c21
        refine ao_aload_n 0 dX4_sum_58 rfl rfl ?_
        obtain ⟨j22, hj22, h⟩ := ao_bind h
        refine an_getR r0 4 1 (q := (RX4, TX4, 3)) dX4_sum_59 rfl hk15 (Nat.le_of_ble_eq_true rfl) rfl lf_X4_23 hj22 ?_
        refine ao_iload_n 3 dX4_sum_62 rfl rfl ?_
        refine ao_bipush (v := 25) dX4_sum_63 (by decide) ?_
        refine ao_icmp_ne 72 dX4_sum_65 (by decide) (fun c23 => ?_) (fun c23 => ?_)
        · replace h := ao_ifF h c23
          refine ao_iconst (v := 5) dX4_sum_72 (by decide) ?_
          exact ih.2.2.2.2.2.2.1 e d hd r0 x1 x2 x3 (5 : Int32) j22 p19.2 _ h
        · replace h := ao_ifT h c23
          refine ao_iconst (v := 4) dX4_sum_68 (by decide) ?_
          refine ao_goto 73 dX4_sum_69 (by decide) ?_
          exact ih.2.2.2.2.2.2.1 e d hd r0 x1 x2 x3 (4 : Int32) j22 p19.2 _ h
      · replace h := ao_ifT h c21
        refine ao_iconst (v := 0) dX4_sum_56 (by decide) ?_
        cases h
        exact ao_ireturn dX4_sum_57 rfl rfl ⟨rfl, rfl⟩
    · intro e d hd r0 x1 x2 x3 s0 q1 M y h
      replace h := ao_ifF h (by decide)
      replace h := ao_ifF h (by decide)
      replace h := ao_ifF h (by decide)
      replace h := ao_ifF h (by decide)
      replace h := ao_ifF h (by decide)
      replace h := ao_ifF h (by decide)
      replace h := ao_ifT h rfl
      refine ao_iconst (v := 0) dX4_sum_73 (by decide) ?_
      obtain ⟨hk24, h⟩ := ao_some h
      obtain ⟨p25, hp25, h⟩ := ao_bind h
      refine an_callVi q1 1 (q := (RX1, TX1, 6)) [.int s0, .int (0 : Int32)] (aX1_add (d - 1) (by omega) q1 s0 (0 : Int32) M ρ hp25) dX4_sum_74 lc_X4_96 li_X1_add ls_X1_add rfl hk24 rfl rfl (Nat.le_of_ble_eq_true rfl) (ao_hR (by omega) (by decide)) ?_
      refine ao_pop dX4_sum_77 rfl ?_
      obtain ⟨v26, hv26⟩ : ∃ z : Int32, z = x2 + (1 : Int32) := ⟨_, rfl⟩
      replace h := ao_letD h hv26
      refine ao_iinc 2 (v := v26) (lo' := [some (.ref (Γ.2.2.2 + r0)), some (.int x1), some (.int v26), some (.int x3)]) dX4_sum_78 rfl (by rw [hv26]; rfl) (Nat.le_of_ble_eq_true rfl) rfl ?_
      refine ao_goto 12 dX4_sum_81 (by decide) ?_
      refine ao_loForget (lo' := [some (.ref (Γ.2.2.2 + r0)), some (.int x1), some (.int v26), none]) (ao_fgS (ao_fgS (ao_fgS (ao_fgN ao_fgZ)))) ?_
      exact ih.2.2.2.2.1 e d hd r0 x1 v26 p25.2 _ h
    · intro e d hd r0 x1 M y h
      replace h := ao_ifF h (by decide)
      replace h := ao_ifF h (by decide)
      replace h := ao_ifF h (by decide)
      replace h := ao_ifF h (by decide)
      replace h := ao_ifF h (by decide)
      replace h := ao_ifF h (by decide)
      replace h := ao_ifF h (by decide)
      replace h := ao_ifT h rfl
      refine ao_aload_n 0 dX4_product_0 rfl rfl ?_
      refine ao_iload_n 1 dX4_product_1 rfl rfl ?_
      obtain ⟨hk1, h⟩ := ao_some h
      obtain ⟨he3, h⟩ := ao_some h
      obtain ⟨p2, hp2, h⟩ := ao_bind h
      have hAp2 : ao_A Γ uX4_simple (d - 1) 0 0 [.ref (Γ.2.2.2 + r0), .int x1] (M, ρ) (ao_PI ρ p2) := by
        refine ao_of (by decide) (ao_cat1 (Nat.le_of_ble_eq_true rfl)) (Nat.le_of_ble_eq_true rfl) ?_
        show ao_W Γ uX4_simple (ao_rm (d - 1) 0 0) (ao_Q Γ (ao_PI ρ p2) 0 0) 0 0 0 [some (.ref (Γ.2.2.2 + r0)), some (.int x1)] [] (M, ρ)
        exact ih.2.2.2.2.2.2.2.2.2 (e - 1) (d - 1) (by omega) r0 x1 M _ hp2
      refine an_callVi r0 4 (q := (RX4, TX4, 3)) [.int x1] hAp2 dX4_product_2 lc_X4_125 li_X4_simple ls_X4_simple rfl hk1 rfl rfl (Nat.le_of_ble_eq_true rfl) (ao_hR (by omega) (by decide)) ?_
      refine ao_if_ne 10 dX4_product_5 (by decide) (fun c4 => ?_) (fun c4 => ?_)
      · replace h := ao_ifF h c4
        refine ao_iconst (v := 0) dX4_product_10 (by decide) ?_
        refine ao_istore_n 2 (lo' := [some (.ref (Γ.2.2.2 + r0)), some (.int x1), some (.int (0 : Int32))]) dX4_product_11 rfl (Nat.le_of_ble_eq_true rfl) rfl ?_
        exact ih.2.2.2.2.2.2.2.2.1 e d hd r0 x1 (0 : Int32) p2.2 _ h
      · replace h := ao_ifT h c4
        refine ao_iconst (v := 0) dX4_product_8 (by decide) ?_
        cases h
        exact ao_ireturn dX4_product_9 rfl rfl ⟨rfl, rfl⟩
    · intro e d hd r0 x1 x2 M y h
      replace h := ao_ifF h (by decide)
      replace h := ao_ifF h (by decide)
      replace h := ao_ifF h (by decide)
      replace h := ao_ifF h (by decide)
      replace h := ao_ifF h (by decide)
      replace h := ao_ifF h (by decide)
      replace h := ao_ifF h (by decide)
      replace h := ao_ifF h (by decide)
      replace h := ao_ifT h rfl
      refine ao_iload_n 2 dX4_product_12 rfl rfl ?_
      refine ao_sipush (v := 1000) dX4_product_13 (by decide) ?_
      refine ao_icmp_gt 67 dX4_product_16 (by decide) (fun c5 => ?_) (fun c5 => ?_)
      · replace h := ao_ifT h c5
        refine ao_aload_n 0 dX4_product_67 rfl rfl ?_
        obtain ⟨hk6, h⟩ := ao_some h
        obtain ⟨p7, hp7, h⟩ := ao_bind h
        refine an_callVi r0 4 (q := (RX4, TX4, 3)) [] (aX4_broken (d - 1) (by omega) r0 M ρ hp7) dX4_product_68 lc_X4_45 li_X4_broken ls_X4_broken rfl hk6 rfl rfl (Nat.le_of_ble_eq_true rfl) (ao_hR (by omega) (by decide)) ?_
        obtain ⟨hz8, h⟩ := ao_some h
        cases h
        exact ao_ireturn dX4_product_71 rfl (ao_nb hz8) ⟨rfl, rfl⟩
      · replace h := ao_ifF h c5
        refine ao_aload_n 0 dX4_product_19 rfl rfl ?_
        obtain ⟨hk9, h⟩ := ao_some h
        obtain ⟨j10, hj10, h⟩ := ao_bind h
        refine an_getR r0 4 0 (q := (RX4, TX4, 3)) dX4_product_20 rfl hk9 (Nat.le_of_ble_eq_true rfl) rfl lf_X4_12 hj10 ?_
        obtain ⟨hk11, h⟩ := ao_some h
        refine an_getI j10 9 8 (q := (RX9, TX9, 11)) dX4_product_23 rfl hk11 (Nat.le_of_ble_eq_true rfl) rfl lf_X4_42 ?_
        refine ao_bipush (v := 27) dX4_product_26 (by decide) ?_
        refine ao_icmp_eq 33 dX4_product_28 (by decide) (fun c12 => ?_) (fun c12 => ?_)
        · replace h := ao_ifT h c12
          refine ao_aload_n 0 dX4_product_33 rfl rfl ?_
          refine an_getR r0 4 0 (q := (RX4, TX4, 3)) dX4_product_34 rfl hk9 (Nat.le_of_ble_eq_true rfl) rfl lf_X4_12 hj10 ?_
          obtain ⟨p13, hp13, h⟩ := ao_bind h
          refine an_callVv j10 9 (q := (RX9, TX9, 11)) [] (aX9_advance (d - 1) (by omega) _ j10 M ρ hp13) dX4_product_37 lc_X4_52 li_X9_advance ls_X9_advance rfl hk11 rfl rfl (Nat.le_of_ble_eq_true rfl) (ao_hR (by omega) (by decide)) ?_
          refine ao_aload_n 0 dX4_product_40 rfl rfl ?_
          refine ao_iload_n 1 dX4_product_41 rfl rfl ?_
          obtain ⟨he15, h⟩ := ao_some h
          obtain ⟨p14, hp14, h⟩ := ao_bind h
          have hAp14 : ao_A Γ uX4_simple (d - 1) 0 0 [.ref (Γ.2.2.2 + r0), .int x1] (p13, ρ) (ao_PI ρ p14) := by
            refine ao_of (by decide) (ao_cat1 (Nat.le_of_ble_eq_true rfl)) (Nat.le_of_ble_eq_true rfl) ?_
            show ao_W Γ uX4_simple (ao_rm (d - 1) 0 0) (ao_Q Γ (ao_PI ρ p14) 0 0) 0 0 0 [some (.ref (Γ.2.2.2 + r0)), some (.int x1)] [] (p13, ρ)
            exact ih.2.2.2.2.2.2.2.2.2 (e - 1) (d - 1) (by omega) r0 x1 p13 _ hp14
          refine an_callVi r0 4 (q := (RX4, TX4, 3)) [.int x1] hAp14 dX4_product_42 lc_X4_125 li_X4_simple ls_X4_simple rfl hk9 rfl rfl (Nat.le_of_ble_eq_true rfl) (ao_hR (by omega) (by decide)) ?_
          refine ao_if_ne 50 dX4_product_45 (by decide) (fun c16 => ?_) (fun c16 => ?_)
          · replace h := ao_ifF h c16
            refine ao_aload_n 0 dX4_product_50 rfl rfl ?_
            obtain ⟨j17, hj17, h⟩ := ao_bind h
            refine an_getR r0 4 1 (q := (RX4, TX4, 3)) dX4_product_51 rfl hk9 (Nat.le_of_ble_eq_true rfl) rfl lf_X4_23 hj17 ?_
            refine ao_bipush (v := 6) dX4_product_54 (by decide) ?_
            refine ao_iconst (v := 0) dX4_product_56 (by decide) ?_
            obtain ⟨hk18, h⟩ := ao_some h
            obtain ⟨p19, hp19, h⟩ := ao_bind h
            refine an_callVi j17 1 (q := (RX1, TX1, 6)) [.int (6 : Int32), .int (0 : Int32)] (aX1_add (d - 1) (by omega) j17 (6 : Int32) (0 : Int32) p14.2 ρ hp19) dX4_product_57 lc_X4_96 li_X1_add ls_X1_add rfl hk18 rfl rfl (Nat.le_of_ble_eq_true rfl) (ao_hR (by omega) (by decide)) ?_
            refine ao_pop dX4_product_60 rfl ?_
            obtain ⟨v20, hv20⟩ : ∃ z : Int32, z = x2 + (1 : Int32) := ⟨_, rfl⟩
            replace h := ao_letD h hv20
            refine ao_iinc 2 (v := v20) (lo' := [some (.ref (Γ.2.2.2 + r0)), some (.int x1), some (.int v20)]) dX4_product_61 rfl (by rw [hv20]; rfl) (Nat.le_of_ble_eq_true rfl) rfl ?_
            refine ao_goto 12 dX4_product_64 (by decide) ?_
            exact ih.2.2.2.2.2.2.2.2.1 e d hd r0 x1 v20 p19.2 _ h
          · replace h := ao_ifT h c16
            refine ao_iconst (v := 0) dX4_product_48 (by decide) ?_
            cases h
            exact ao_ireturn dX4_product_49 rfl rfl ⟨rfl, rfl⟩
        · replace h := ao_ifF h c12
          refine ao_iconst (v := 1) dX4_product_31 (by decide) ?_
          cases h
          exact ao_ireturn dX4_product_32 rfl rfl ⟨rfl, rfl⟩
    · intro e d hd r0 x1 M y h
      replace h := ao_ifF h (by decide)
      replace h := ao_ifF h (by decide)
      replace h := ao_ifF h (by decide)
      replace h := ao_ifF h (by decide)
      replace h := ao_ifF h (by decide)
      replace h := ao_ifF h (by decide)
      replace h := ao_ifF h (by decide)
      replace h := ao_ifF h (by decide)
      replace h := ao_ifF h (by decide)
      replace h := ao_ifT h rfl
      refine ao_aload_n 0 dX4_simple_0 rfl rfl ?_
      obtain ⟨hk1, h⟩ := ao_some h
      obtain ⟨j2, hj2, h⟩ := ao_bind h
      refine an_getR r0 4 0 (q := (RX4, TX4, 3)) dX4_simple_1 rfl hk1 (Nat.le_of_ble_eq_true rfl) rfl lf_X4_12 hj2 ?_
      obtain ⟨hk3, h⟩ := ao_some h
      refine an_getI j2 9 8 (q := (RX9, TX9, 11)) dX4_simple_4 rfl hk3 (Nat.le_of_ble_eq_true rfl) rfl lf_X4_42 ?_
      refine an_topi (fun v4 hv4 => ?_)
      replace h := ao_letD h hv4
      by_cases c5 : v4 = (2 : Int32)
      · replace h := ao_ifT h c5
        refine ao_lookup 54 dX4_simple_7 (by decide) (by rw [c5] <;> rfl) (by decide) ?_
        refine ao_aload_n 0 dX4_simple_54 rfl rfl ?_
        refine ao_iconst (v := 3) dX4_simple_55 (by decide) ?_
        obtain ⟨p6, hp6, h⟩ := ao_bind h
        refine an_callVi r0 4 (q := (RX4, TX4, 3)) [.int (3 : Int32)] (aX4_leaf (d - 1) (by omega) _ r0 (3 : Int32) M ρ hp6) dX4_simple_56 lc_X4_128 li_X4_leaf ls_X4_leaf rfl hk1 rfl rfl (Nat.le_of_ble_eq_true rfl) (ao_hR (by omega) (by decide)) ?_
        obtain ⟨hz7, h⟩ := ao_some h
        cases h
        exact ao_ireturn dX4_simple_59 rfl (ao_nb hz7) ⟨rfl, rfl⟩
      · replace h := ao_ifF h c5
        by_cases c8 : v4 = (3 : Int32)
        · replace h := ao_ifT h c8
          refine ao_lookup 60 dX4_simple_7 (by decide) (by rw [c8] <;> rfl) (by decide) ?_
          refine ao_aload_n 0 dX4_simple_60 rfl rfl ?_
          refine ao_iconst (v := 2) dX4_simple_61 (by decide) ?_
          obtain ⟨p9, hp9, h⟩ := ao_bind h
          refine an_callVi r0 4 (q := (RX4, TX4, 3)) [.int (2 : Int32)] (aX4_leaf (d - 1) (by omega) _ r0 (2 : Int32) M ρ hp9) dX4_simple_62 lc_X4_128 li_X4_leaf ls_X4_leaf rfl hk1 rfl rfl (Nat.le_of_ble_eq_true rfl) (ao_hR (by omega) (by decide)) ?_
          obtain ⟨hz10, h⟩ := ao_some h
          cases h
          exact ao_ireturn dX4_simple_65 rfl (ao_nb hz10) ⟨rfl, rfl⟩
        · replace h := ao_ifF h c8
          by_cases c11 : v4 = (4 : Int32)
          · replace h := ao_ifT h c11
            refine ao_lookup 48 dX4_simple_7 (by decide) (by rw [c11] <;> rfl) (by decide) ?_
            refine ao_aload_n 0 dX4_simple_48 rfl rfl ?_
            refine ao_iconst (v := 1) dX4_simple_49 (by decide) ?_
            obtain ⟨p12, hp12, h⟩ := ao_bind h
            refine an_callVi r0 4 (q := (RX4, TX4, 3)) [.int (1 : Int32)] (aX4_leaf (d - 1) (by omega) _ r0 (1 : Int32) M ρ hp12) dX4_simple_50 lc_X4_128 li_X4_leaf ls_X4_leaf rfl hk1 rfl rfl (Nat.le_of_ble_eq_true rfl) (ao_hR (by omega) (by decide)) ?_
            obtain ⟨hz13, h⟩ := ao_some h
            cases h
            exact ao_ireturn dX4_simple_53 rfl (ao_nb hz13) ⟨rfl, rfl⟩
          · replace h := ao_ifF h c11
            by_cases c14 : v4 = (26 : Int32)
            · replace h := ao_ifT h c14
              refine ao_lookup 66 dX4_simple_7 (by decide) (by rw [c14] <;> rfl) (by decide) ?_
              refine ao_aload_n 0 dX4_simple_66 rfl rfl ?_
              refine ao_bipush (v := 26) dX4_simple_67 (by decide) ?_
              refine ao_iload_n 1 dX4_simple_69 rfl rfl ?_
              obtain ⟨p15, hp15, h⟩ := ao_bind h
              refine an_callVi r0 4 (q := (RX4, TX4, 3)) [.int (26 : Int32), .int x1] (aX4_expectNested (d - 1) (by omega) _ r0 (26 : Int32) x1 M ρ hp15) dX4_simple_70 lc_X4_62 li_X4_expectNested ls_X4_expectNested rfl hk1 rfl rfl (Nat.le_of_ble_eq_true rfl) (ao_hR (by omega) (by decide)) ?_
              refine ao_if_eq 86 dX4_simple_73 (by decide) (fun c16 => ?_) (fun c16 => ?_)
              · replace h := ao_ifT h c16
                refine ao_iconst (v := 0) dX4_simple_86 (by decide) ?_
                cases h
                exact ao_ireturn dX4_simple_87 rfl rfl ⟨rfl, rfl⟩
              · replace h := ao_ifF h c16
                refine ao_aload_n 0 dX4_simple_76 rfl rfl ?_
                refine ao_iload_n 1 dX4_simple_77 rfl rfl ?_
                refine ao_iconst (v := 1) dX4_simple_78 (by decide) ?_
                refine ao_iadd dX4_simple_79 ?_
                obtain ⟨he18, h⟩ := ao_some h
                obtain ⟨p17, hp17, h⟩ := ao_bind h
                have hAp17 : ao_A Γ uX4_simple (d - 1) 0 0 [.ref (Γ.2.2.2 + r0), .int (x1 + (1 : Int32))] (p15.2, ρ) (ao_PI ρ p17) := by
                  refine ao_of (by decide) (ao_cat1 (Nat.le_of_ble_eq_true rfl)) (Nat.le_of_ble_eq_true rfl) ?_
                  show ao_W Γ uX4_simple (ao_rm (d - 1) 0 0) (ao_Q Γ (ao_PI ρ p17) 0 0) 0 0 0 [some (.ref (Γ.2.2.2 + r0)), some (.int (x1 + (1 : Int32)))] [] (p15.2, ρ)
                  exact ih.2.2.2.2.2.2.2.2.2 (e - 1) (d - 1) (by omega) r0 (x1 + (1 : Int32)) p15.2 _ hp17
                refine an_callVi r0 4 (q := (RX4, TX4, 3)) [.int (x1 + (1 : Int32))] hAp17 dX4_simple_80 lc_X4_125 li_X4_simple ls_X4_simple rfl hk1 rfl rfl (Nat.le_of_ble_eq_true rfl) (ao_hR (by omega) (by decide)) ?_
                refine ao_if_ne 88 dX4_simple_83 (by decide) (fun c19 => ?_) (fun c19 => ?_)
                · replace h := ao_ifF h c19
                  refine ao_aload_n 0 dX4_simple_88 rfl rfl ?_
                  obtain ⟨j20, hj20, h⟩ := ao_bind h
                  refine an_getR r0 4 1 (q := (RX4, TX4, 3)) dX4_simple_89 rfl hk1 (Nat.le_of_ble_eq_true rfl) rfl lf_X4_23 hj20 ?_
                  refine ao_bipush (v := 9) dX4_simple_92 (by decide) ?_
                  refine ao_iconst (v := 0) dX4_simple_94 (by decide) ?_
                  obtain ⟨hk21, h⟩ := ao_some h
                  obtain ⟨p22, hp22, h⟩ := ao_bind h
                  refine an_callVi j20 1 (q := (RX1, TX1, 6)) [.int (9 : Int32), .int (0 : Int32)] (aX1_add (d - 1) (by omega) j20 (9 : Int32) (0 : Int32) p17.2 ρ hp22) dX4_simple_95 lc_X4_96 li_X1_add ls_X1_add rfl hk21 rfl rfl (Nat.le_of_ble_eq_true rfl) (ao_hR (by omega) (by decide)) ?_
                  refine ao_pop dX4_simple_98 rfl ?_
                  refine ao_iconst (v := 1) dX4_simple_99 (by decide) ?_
                  cases h
                  exact ao_ireturn dX4_simple_100 rfl rfl ⟨rfl, rfl⟩
                · replace h := ao_ifT h c19
                  refine ao_iconst (v := 0) dX4_simple_86 (by decide) ?_
                  cases h
                  exact ao_ireturn dX4_simple_87 rfl rfl ⟨rfl, rfl⟩
            · replace h := ao_ifF h c14
              have nc5 := ao_ne (z := 2) c5 (by decide)
              have nc8 := ao_ne (z := 3) c8 (by decide)
              have nc11 := ao_ne (z := 4) c11 (by decide)
              have nc14 := ao_ne (z := 26) c14 (by decide)
              refine ao_lookup 101 dX4_simple_7 (by decide) (off := 94) (by simp [Op.lookupswitch.offset, nc5, Ne.symm nc5, nc8, Ne.symm nc8, nc11, Ne.symm nc11, nc14, Ne.symm nc14]) (by decide) ?_
              refine ao_aload_n 0 dX4_simple_101 rfl rfl ?_
              refine ao_bipush (v := 19) dX4_simple_102 (by decide) ?_
              refine ao_iload_n 1 dX4_simple_104 rfl rfl ?_
              obtain ⟨p23, hp23, h⟩ := ao_bind h
              refine an_callVi r0 4 (q := (RX4, TX4, 3)) [.int (19 : Int32), .int x1] (aX4_expectNested (d - 1) (by omega) _ r0 (19 : Int32) x1 M ρ hp23) dX4_simple_105 lc_X4_62 li_X4_expectNested ls_X4_expectNested rfl hk1 rfl rfl (Nat.le_of_ble_eq_true rfl) (ao_hR (by omega) (by decide)) ?_
              refine ao_if_eq 134 dX4_simple_108 (by decide) (fun c24 => ?_) (fun c24 => ?_)
              · replace h := ao_ifT h c24
                refine ao_iconst (v := 0) dX4_simple_134 (by decide) ?_
                cases h
                exact ao_ireturn dX4_simple_135 rfl rfl ⟨rfl, rfl⟩
              · replace h := ao_ifF h c24
                refine ao_aload_n 0 dX4_simple_111 rfl rfl ?_
                refine ao_iload_n 1 dX4_simple_112 rfl rfl ?_
                refine ao_iconst (v := 1) dX4_simple_113 (by decide) ?_
                refine ao_iadd dX4_simple_114 ?_
                obtain ⟨he26, h⟩ := ao_some h
                obtain ⟨p25, hp25, h⟩ := ao_bind h
                have hAp25 : ao_A Γ uX4_expression (d - 1) 0 0 [.ref (Γ.2.2.2 + r0), .int (x1 + (1 : Int32))] (p23.2, ρ) (ao_PI ρ p25) := by
                  refine ao_of (by decide) (ao_cat1 (Nat.le_of_ble_eq_true rfl)) (Nat.le_of_ble_eq_true rfl) ?_
                  show ao_W Γ uX4_expression (ao_rm (d - 1) 0 0) (ao_Q Γ (ao_PI ρ p25) 0 0) 0 0 0 [some (.ref (Γ.2.2.2 + r0)), some (.int (x1 + (1 : Int32))), none] [] (p23.2, ρ)
                  exact ih.1 (e - 1) (d - 1) (by omega) r0 (x1 + (1 : Int32)) p23.2 _ hp25
                refine an_callVi r0 4 (q := (RX4, TX4, 3)) [.int (x1 + (1 : Int32))] hAp25 dX4_simple_115 lc_X4_93 li_X4_expression ls_X4_expression rfl hk1 rfl rfl (Nat.le_of_ble_eq_true rfl) (ao_hR (by omega) (by decide)) ?_
                refine ao_if_eq 134 dX4_simple_118 (by decide) (fun c27 => ?_) (fun c27 => ?_)
                · replace h := ao_ifT h c27
                  refine ao_iconst (v := 0) dX4_simple_134 (by decide) ?_
                  cases h
                  exact ao_ireturn dX4_simple_135 rfl rfl ⟨rfl, rfl⟩
                · replace h := ao_ifF h c27
                  refine ao_aload_n 0 dX4_simple_121 rfl rfl ?_
                  refine ao_bipush (v := 20) dX4_simple_122 (by decide) ?_
                  obtain ⟨p28, hp28, h⟩ := ao_bind h
                  refine an_callVi r0 4 (q := (RX4, TX4, 3)) [.int (20 : Int32)] (aX4_expect (d - 1) (by omega) _ r0 (20 : Int32) p25.2 ρ hp28) dX4_simple_124 lc_X4_55 li_X4_expect ls_X4_expect rfl hk1 rfl rfl (Nat.le_of_ble_eq_true rfl) (ao_hR (by omega) (by decide)) ?_
                  refine ao_if_eq 134 dX4_simple_127 (by decide) (fun c29 => ?_) (fun c29 => ?_)
                  · replace h := ao_ifT h c29
                    refine ao_iconst (v := 0) dX4_simple_134 (by decide) ?_
                    cases h
                    exact ao_ireturn dX4_simple_135 rfl rfl ⟨rfl, rfl⟩
                  · replace h := ao_ifF h c29
                    refine ao_iconst (v := 1) dX4_simple_130 (by decide) ?_
                    refine ao_goto 135 dX4_simple_131 (by decide) ?_
                    cases h
                    exact ao_ireturn dX4_simple_135 rfl rfl ⟨rfl, rfl⟩
def gX4_expression (n : Nat) (r0 : Nat) (x1 : Int32) (M : ao_M) (ρ : ao_H) : Option (Int32 × ao_M) := fGX n 64 0 r0 x1 0 0 0 0 M ρ
set_option maxRecDepth 100000 in
set_option maxHeartbeats 4000000 in
theorem aX4_expression {Γ : ao_C} (d : Nat) (hd : 67 ≤ d) (n : Nat) (r0 : Nat) (x1 : Int32) (M : ao_M) (ρ : ao_H) {y : Int32 × ao_M} (h : gX4_expression n r0 x1 M ρ = some y) : ao_A Γ uX4_expression d 0 0 [.ref (Γ.2.2.2 + r0), .int x1] (M, ρ) (ao_PI ρ y) := by
  refine ao_of (by decide) (ao_cat1 (Nat.le_of_ble_eq_true rfl)) (Nat.le_of_ble_eq_true rfl) ?_
  show ao_W Γ uX4_expression (ao_rm d 0 0) (ao_Q Γ (ao_PI ρ y) 0 0) 0 0 0 [some (.ref (Γ.2.2.2 + r0)), some (.int x1), none] [] (M, ρ)
  exact (wGX n).1 64 d hd r0 x1 M y h
def gX4_sum (n : Nat) (r0 : Nat) (x1 : Int32) (M : ao_M) (ρ : ao_H) : Option (Int32 × ao_M) := fGX n 64 1000 r0 x1 0 0 0 0 M ρ
set_option maxRecDepth 100000 in
set_option maxHeartbeats 4000000 in
theorem aX4_sum {Γ : ao_C} (d : Nat) (hd : 67 ≤ d) (n : Nat) (r0 : Nat) (x1 : Int32) (M : ao_M) (ρ : ao_H) {y : Int32 × ao_M} (h : gX4_sum n r0 x1 M ρ = some y) : ao_A Γ uX4_sum d 0 0 [.ref (Γ.2.2.2 + r0), .int x1] (M, ρ) (ao_PI ρ y) := by
  refine ao_of (by decide) (ao_cat1 (Nat.le_of_ble_eq_true rfl)) (Nat.le_of_ble_eq_true rfl) ?_
  show ao_W Γ uX4_sum (ao_rm d 0 0) (ao_Q Γ (ao_PI ρ y) 0 0) 0 0 0 [some (.ref (Γ.2.2.2 + r0)), some (.int x1), none, none] [] (M, ρ)
  exact (wGX n).2.2.2.1 64 d hd r0 x1 M y h
def gX4_product (n : Nat) (r0 : Nat) (x1 : Int32) (M : ao_M) (ρ : ao_H) : Option (Int32 × ao_M) := fGX n 64 2000 r0 x1 0 0 0 0 M ρ
set_option maxRecDepth 100000 in
set_option maxHeartbeats 4000000 in
theorem aX4_product {Γ : ao_C} (d : Nat) (hd : 67 ≤ d) (n : Nat) (r0 : Nat) (x1 : Int32) (M : ao_M) (ρ : ao_H) {y : Int32 × ao_M} (h : gX4_product n r0 x1 M ρ = some y) : ao_A Γ uX4_product d 0 0 [.ref (Γ.2.2.2 + r0), .int x1] (M, ρ) (ao_PI ρ y) := by
  refine ao_of (by decide) (ao_cat1 (Nat.le_of_ble_eq_true rfl)) (Nat.le_of_ble_eq_true rfl) ?_
  show ao_W Γ uX4_product (ao_rm d 0 0) (ao_Q Γ (ao_PI ρ y) 0 0) 0 0 0 [some (.ref (Γ.2.2.2 + r0)), some (.int x1), none] [] (M, ρ)
  exact (wGX n).2.2.2.2.2.2.2.1 64 d hd r0 x1 M y h
def gX4_simple (n : Nat) (r0 : Nat) (x1 : Int32) (M : ao_M) (ρ : ao_H) : Option (Int32 × ao_M) := fGX n 64 3000 r0 x1 0 0 0 0 M ρ
set_option maxRecDepth 100000 in
set_option maxHeartbeats 4000000 in
theorem aX4_simple {Γ : ao_C} (d : Nat) (hd : 67 ≤ d) (n : Nat) (r0 : Nat) (x1 : Int32) (M : ao_M) (ρ : ao_H) {y : Int32 × ao_M} (h : gX4_simple n r0 x1 M ρ = some y) : ao_A Γ uX4_simple d 0 0 [.ref (Γ.2.2.2 + r0), .int x1] (M, ρ) (ao_PI ρ y) := by
  refine ao_of (by decide) (ao_cat1 (Nat.le_of_ble_eq_true rfl)) (Nat.le_of_ble_eq_true rfl) ?_
  show ao_W Γ uX4_simple (ao_rm d 0 0) (ao_Q Γ (ao_PI ρ y) 0 0) 0 0 0 [some (.ref (Γ.2.2.2 + r0)), some (.int x1)] [] (M, ρ)
  exact (wGX n).2.2.2.2.2.2.2.2.2 64 d hd r0 x1 M y h







abbrev uX12_block : ao_Mi := (yX12_block, cX12_block, 1, none, [])
abbrev uX12_statement : ao_Mi := (yX12_statement, cX12_statement, 7, none, [])
abbrev uX12_tried : ao_Mi := (yX12_tried, cX12_tried, 4, none, [])
abbrev uX12_atom : ao_Mi := (yX12_atom, cX12_atom, 6, none, [])
def fGB : Nat → Nat → Nat → Nat → Int32 → Int32 → Int32 → Int32 → Int32 → Int32 → Int32 → Nat → Int32 → Int32 → Nat →  ao_M → ao_H → Option ((Int32 ⊕ String) × ao_S)
  | 0, _, _, _, _, _, _, _, _, _, _, _, _, _, _, _, _ => none
  | n + 1, e, pc, r0, x1, x2, x3, x4, x5, x6, s0, q1, s1, s2, q3, M, ρ =>
    if pc = 0 then
      if ρ.2.1 r0 = 22 then
      (gX12_isSign r0 (123 : Int32) M ρ).bind fun p2 =>
      if p2.1 = 0 then
        (gX12_wrong r0 (p2.2 r0 11) p2.2 ρ).bind fun p6 =>
        if ρ.2.1 p6.1 = 21 then
        some (.inr RX11, p6.2, ρ)
        else none
      else
        (gX12_enter n r0 p2.2 ρ).bind fun p4 =>
        ao_cs p4.1 (fun _ => fGB n e 22 r0 0 0 0 0 0 0 0 0 0 0 0 p4.2.1 p4.2.2) (fun E => some (.inr E, p4.2.1, p4.2.2))
      else none
    else if pc = 22 then
      if ρ.2.1 r0 = 22 then
      (gX12_token n r0 M ρ).bind fun p9 =>
      fGB n e 26 r0 0 0 0 0 0 0 0 0 0 0 0 p9 ρ
      else none
    else if pc = 26 then
      if ρ.2.1 r0 = 22 then
      (gX12_isSign r0 (125 : Int32) M ρ).bind fun p11 =>
      if p11.1 = 0 then
        if 0 < e then
        (fGB n (e - 1) 1000 r0 0 0 0 0 0 0 0 0 0 0 0 p11.2 ρ).bind fun p15 =>
        ao_cs p15.1 (fun _ => fGB n e 39 r0 0 0 0 0 0 0 0 0 0 0 0 p15.2.1 p15.2.2) (fun E => some (.inr E, p15.2.1, p15.2.2))
        else none
      else
        (gX12_token n r0 p11.2 ρ).bind fun p13 =>
        ao_let (ao_u p13 r0 14 ((p13 r0 14) - (1 : Int32))) fun M14 =>
        some (.inl 0, M14, ρ)
      else none
    else if pc = 39 then
      fGB n e 26 r0 0 0 0 0 0 0 0 0 0 0 0 M ρ
    else if pc = 1000 then
      if ρ.2.1 r0 = 22 then
      if (M r0 9) = 0 then
        fGB n e 1014 r0 0 0 0 0 0 0 0 0 0 0 0 M ρ
      else
        if 0 ≤ (M r0 9) then
          ao_let (M r0 9) fun v4 =>
          ao_let (M r0 10) fun v5 =>
          if v4 = (1 : Int32) then
            fGB n e 1065 r0 v4 v5 0 0 0 0 0 0 0 0 0 M ρ
          else
            if v4 = (2 : Int32) then
              fGB n e 1065 r0 v4 v5 0 0 0 0 0 0 0 0 0 M ρ
            else
              if v4 = (3 : Int32) then
                if v5 = (1 : Int32) then
                  fGB n e 1069 r0 v4 v5 0 0 0 0 0 0 0 0 0 M ρ
                else
                  if v5 = (6 : Int32) then
                    fGB n e 1069 r0 v4 v5 0 0 0 0 0 0 0 0 0 M ρ
                  else
                    if v5 = (11 : Int32) then
                      fGB n e 1069 r0 v4 v5 0 0 0 0 0 0 0 0 0 M ρ
                    else
                      fGB n e 1065 r0 v4 v5 0 0 0 0 0 0 0 0 0 M ρ
              else
                fGB n e 1069 r0 v4 v5 0 0 0 0 0 0 0 0 0 M ρ
        else
          fGB n e 1014 r0 0 0 0 0 0 0 0 0 0 0 0 M ρ
      else none
    else if pc = 1014 then
      if ρ.2.1 r0 = 22 then
      (gX12_wrong r0 (M r0 11) M ρ).bind fun p13 =>
      if ρ.2.1 p13.1 = 21 then
      some (.inr RX11, p13.2, ρ)
      else none
      else none
    else if pc = 1065 then
      fGB n e 1070 r0 x1 x2 0 0 0 0 (1 : Int32) 0 0 0 0 M ρ
    else if pc = 1069 then
      fGB n e 1070 r0 x1 x2 0 0 0 0 (0 : Int32) 0 0 0 0 M ρ
    else if pc = 1070 then
      if s0 = 0 then
        fGB n e 1099 r0 x1 x2 s0 0 0 0 0 0 0 0 0 M ρ
      else
        if x1 = (3 : Int32) then
          if x2 = (7 : Int32) then
            fGB n e 1092 r0 x1 x2 s0 0 0 0 0 0 0 0 0 M ρ
          else
            if x2 = (8 : Int32) then
              fGB n e 1092 r0 x1 x2 s0 0 0 0 0 0 0 0 0 M ρ
            else
              fGB n e 1108 r0 x1 x2 s0 0 0 0 0 0 0 0 0 M ρ
        else
          fGB n e 1108 r0 x1 x2 s0 0 0 0 0 0 0 0 0 M ρ
    else if pc = 1092 then
      if ρ.2.1 r0 = 22 then
      if (M r0 16) = 0 then
        fGB n e 1099 r0 x1 x2 x3 0 0 0 0 0 0 0 0 M ρ
      else
        fGB n e 1108 r0 x1 x2 x3 0 0 0 0 0 0 0 0 M ρ
      else none
    else if pc = 1099 then
      if ρ.2.1 r0 = 22 then
      (gX12_wrong r0 (M r0 11) M ρ).bind fun p22 =>
      if ρ.2.1 p22.1 = 21 then
      some (.inr RX11, p22.2, ρ)
      else none
      else none
    else if pc = 1108 then
      if ρ.2.1 r0 = 22 then
      if (M r0 15) = (300 : Int32) then
        (gX12_wrong r0 (M r0 11) M ρ).bind fun p50 =>
        if ρ.2.1 p50.1 = 21 then
        some (.inr RX11, p50.2, ρ)
        else none
      else
        ao_let (ao_u M r0 15 ((M r0 15) + (1 : Int32))) fun M26 =>
        (gX12_token n r0 M26 ρ).bind fun p27 =>
        if x1 = (3 : Int32) then
          if x2 = (0 : Int32) then
            (gX12_condition n r0 p27 ρ).bind fun p30 =>
            ao_cs p30.1 (fun _ => fGB n e 1248 r0 x1 x2 x3 0 0 0 0 0 0 0 0 p30.2.1 p30.2.2) (fun E => some (.inr E, p30.2.1, p30.2.2))
          else
            if x2 = (2 : Int32) then
              ao_let (p27 r0 13) fun v33 =>
              (gX12_condition n r0 p27 ρ).bind fun p34 =>
              ao_cs p34.1 (fun _ => fGB n e 1349 r0 x1 x2 x3 0 v33 0 0 0 0 0 0 p34.2.1 p34.2.2) (fun E => some (.inr E, p34.2.1, p34.2.2))
            else
              if x2 = (3 : Int32) then
                fGB n e 1402 r0 x1 x2 x3 0 0 0 0 0 0 0 0 p27 ρ
              else
                if x2 = (7 : Int32) then
                  fGB n e 1435 r0 x1 x2 x3 0 0 0 0 0 0 0 0 p27 ρ
                else
                  if x2 = (8 : Int32) then
                    fGB n e 1435 r0 x1 x2 x3 0 0 0 0 0 0 0 0 p27 ρ
                  else
                    if x2 = (9 : Int32) then
                      fGB n e 1402 r0 x1 x2 x3 0 0 0 0 0 0 0 0 p27 ρ
                    else
                      if x2 = (10 : Int32) then
                        if 0 < e then
                        (fGB n (e - 1) 2000 r0 0 0 0 0 0 0 0 0 0 0 0 p27 ρ).bind fun p41 =>
                        ao_cs p41.1 (fun _ => fGB n e 1469 r0 x1 x2 x3 0 0 0 0 0 0 0 0 p41.2.1 p41.2.2) (fun E => some (.inr E, p41.2.1, p41.2.2))
                        else none
                      else
                        fGB n e 1472 r0 x1 x2 x3 0 0 0 0 0 0 0 0 p27 ρ
        else
          (gX12_need n r0 (61 : Int32) p27 ρ).bind fun p48 =>
          ao_cs p48.1 (fun _ => fGB n e 1152 r0 x1 x2 x3 0 0 0 0 0 0 0 0 p48.2.1 p48.2.2) (fun E => some (.inr E, p48.2.1, p48.2.2))
      else none
    else if pc = 1152 then
      if ρ.2.1 r0 = 22 then
      (gX12_expression n r0 M ρ).bind fun p53 =>
      ao_cs p53.1 (fun _ => fGB n e 1156 r0 x1 x2 x3 0 0 0 0 0 0 0 0 p53.2.1 p53.2.2) (fun E => some (.inr E, p53.2.1, p53.2.2))
      else none
    else if pc = 1156 then
      if ρ.2.1 r0 = 22 then
      (gX12_need n r0 (59 : Int32) M ρ).bind fun p56 =>
      ao_cs p56.1 (fun _ => fGB n e 1162 r0 x1 x2 x3 0 0 0 0 0 0 0 0 p56.2.1 p56.2.2) (fun E => some (.inr E, p56.2.1, p56.2.2))
      else none
    else if pc = 1162 then
      if x1 = (1 : Int32) then
        fGB n e 1175 r0 x1 x2 x3 0 0 0 (10 : Int32) r0 0 0 0 M ρ
      else
        fGB n e 1175 r0 x1 x2 x3 0 0 0 (9 : Int32) r0 0 0 0 M ρ
    else if pc = 1175 then
      if ρ.2.1 q1 = 22 then
      (gX12_make q1 s0 x2 (0 : Int32) M ρ).bind fun p60 =>
      ao_let p60.1 fun v61 =>
      some (.inl 0, p60.2, ρ)
      else none
    else if pc = 1248 then
      if ρ.2.1 r0 = 22 then
      (gX12_make r0 (11 : Int32) (0 : Int32) (0 : Int32) M ρ).bind fun p63 =>
      ao_let p63.1 fun v64 =>
      if 0 < e then
      (fGB n (e - 1) 0 r0 0 0 0 0 0 0 0 0 0 0 0 p63.2 ρ).bind fun p65 =>
      ao_cs p65.1 (fun _ => fGB n e 1262 r0 x1 x2 x3 0 v64 0 0 0 0 0 0 p65.2.1 p65.2.2) (fun E => some (.inr E, p65.2.1, p65.2.2))
      else none
      else none
    else if pc = 1262 then
      if ρ.2.1 r0 = 22 then
      (gX12_isWord r0 (1 : Int32) M ρ).bind fun p69 =>
      if p69.1 = 0 then
        (ρ.1 r0 12).bind fun j71 =>
        if ρ.2.1 j71 = 0 then
        if ¬ ((((3 : Int32) * x5) + (1 : Int32)) < 0 ∨ ρ.2.2.1 j71 ≤ (((3 : Int32) * x5) + (1 : Int32)).toNatClampNeg) then
        ao_let (ao_u p69.2 j71 (((3 : Int32) * x5) + (1 : Int32)).toNatClampNeg (p69.2 r0 13)) fun M74 =>
        fGB n e 1486 r0 x1 x2 x3 0 0 0 0 0 0 0 0 M74 ρ
        else none
        else none
      else
        (gX12_token n r0 p69.2 ρ).bind fun p75 =>
        (gX12_make r0 (12 : Int32) (0 : Int32) (0 : Int32) p75 ρ).bind fun p76 =>
        ao_let p76.1 fun v77 =>
        (ρ.1 r0 12).bind fun j78 =>
        if ρ.2.1 j78 = 0 then
        if ¬ ((((3 : Int32) * x5) + (1 : Int32)) < 0 ∨ ρ.2.2.1 j78 ≤ (((3 : Int32) * x5) + (1 : Int32)).toNatClampNeg) then
        ao_let (ao_u p76.2 j78 (((3 : Int32) * x5) + (1 : Int32)).toNatClampNeg (p76.2 r0 13)) fun M81 =>
        if 0 < e then
        (fGB n (e - 1) 0 r0 0 0 0 0 0 0 0 0 0 0 0 M81 ρ).bind fun p82 =>
        ao_cs p82.1 (fun _ => fGB n e 1303 r0 x1 x2 x3 0 x5 v77 0 0 0 0 0 p82.2.1 p82.2.2) (fun E => some (.inr E, p82.2.1, p82.2.2))
        else none
        else none
        else none
      else none
    else if pc = 1303 then
      if ρ.2.1 r0 = 22 then
      (ρ.1 r0 12).bind fun j86 =>
      if ρ.2.1 j86 = 0 then
      if ¬ ((((3 : Int32) * x6) + (1 : Int32)) < 0 ∨ ρ.2.2.1 j86 ≤ (((3 : Int32) * x6) + (1 : Int32)).toNatClampNeg) then
      ao_let (ao_u M j86 (((3 : Int32) * x6) + (1 : Int32)).toNatClampNeg (M r0 13)) fun M89 =>
      fGB n e 1486 r0 x1 x2 x3 0 0 0 0 0 0 0 0 M89 ρ
      else none
      else none
      else none
    else if pc = 1349 then
      if ρ.2.1 r0 = 22 then
      (gX12_make r0 (11 : Int32) (0 : Int32) (0 : Int32) M ρ).bind fun p91 =>
      ao_let p91.1 fun v92 =>
      (gX12_make r0 (13 : Int32) (0 : Int32) (0 : Int32) p91.2 ρ).bind fun p93 =>
      ao_let p93.1 fun v94 =>
      if 0 < e then
      (fGB n (e - 1) 0 r0 0 0 0 0 0 0 0 0 0 0 0 p93.2 ρ).bind fun p95 =>
      ao_cs p95.1 (fun _ => fGB n e 1373 r0 x1 x2 x3 v94 x5 v92 0 0 0 0 0 p95.2.1 p95.2.2) (fun E => some (.inr E, p95.2.1, p95.2.2))
      else none
      else none
    else if pc = 1373 then
      if ρ.2.1 r0 = 22 then
      (gX12_make r0 (12 : Int32) x5 (0 : Int32) M ρ).bind fun p99 =>
      ao_let p99.1 fun v100 =>
      (ρ.1 r0 12).bind fun j101 =>
      if ρ.2.1 j101 = 0 then
      if ¬ ((((3 : Int32) * x6) + (1 : Int32)) < 0 ∨ ρ.2.2.1 j101 ≤ (((3 : Int32) * x6) + (1 : Int32)).toNatClampNeg) then
      ao_let (ao_u p99.2 j101 (((3 : Int32) * x6) + (1 : Int32)).toNatClampNeg (p99.2 r0 13)) fun M104 =>
      fGB n e 1486 r0 x1 x2 x3 0 0 0 0 0 0 0 0 M104 ρ
      else none
      else none
      else none
    else if pc = 1402 then
      if ρ.2.1 r0 = 22 then
      (gX12_expression n r0 M ρ).bind fun p106 =>
      ao_cs p106.1 (fun _ => fGB n e 1406 r0 x1 x2 x3 0 0 0 0 0 0 0 0 p106.2.1 p106.2.2) (fun E => some (.inr E, p106.2.1, p106.2.2))
      else none
    else if pc = 1406 then
      if ρ.2.1 r0 = 22 then
      (gX12_need n r0 (59 : Int32) M ρ).bind fun p109 =>
      ao_cs p109.1 (fun _ => fGB n e 1412 r0 x1 x2 x3 0 0 0 0 0 0 0 0 p109.2.1 p109.2.2) (fun E => some (.inr E, p109.2.1, p109.2.2))
      else none
    else if pc = 1412 then
      if x2 = (3 : Int32) then
        fGB n e 1425 r0 x1 x2 x3 0 0 0 (14 : Int32) r0 0 0 0 M ρ
      else
        fGB n e 1425 r0 x1 x2 x3 0 0 0 (19 : Int32) r0 0 0 0 M ρ
    else if pc = 1425 then
      if ρ.2.1 q1 = 22 then
      (gX12_make q1 s0 (0 : Int32) (0 : Int32) M ρ).bind fun p113 =>
      ao_let p113.1 fun v114 =>
      fGB n e 1486 r0 x1 x2 x3 0 0 0 0 0 0 0 0 p113.2 ρ
      else none
    else if pc = 1435 then
      if ρ.2.1 r0 = 22 then
      (gX12_need n r0 (59 : Int32) M ρ).bind fun p116 =>
      ao_cs p116.1 (fun _ => fGB n e 1441 r0 x1 x2 x3 0 0 0 0 0 0 0 0 p116.2.1 p116.2.2) (fun E => some (.inr E, p116.2.1, p116.2.2))
      else none
    else if pc = 1441 then
      if x2 = (7 : Int32) then
        fGB n e 1455 r0 x1 x2 x3 0 0 0 (17 : Int32) r0 0 0 0 M ρ
      else
        fGB n e 1455 r0 x1 x2 x3 0 0 0 (18 : Int32) r0 0 0 0 M ρ
    else if pc = 1455 then
      if ρ.2.1 q1 = 22 then
      (gX12_make q1 s0 (0 : Int32) (0 : Int32) M ρ).bind fun p120 =>
      ao_let p120.1 fun v121 =>
      fGB n e 1486 r0 x1 x2 x3 0 0 0 0 0 0 0 0 p120.2 ρ
      else none
    else if pc = 1469 then
      fGB n e 1486 r0 x1 x2 x3 0 0 0 0 0 0 0 0 M ρ
    else if pc = 1472 then
      if x2 = (4 : Int32) then
        fGB n e 1483 r0 x1 x2 x3 0 0 0 (1 : Int32) r0 0 0 0 M ρ
      else
        fGB n e 1483 r0 x1 x2 x3 0 0 0 (0 : Int32) r0 0 0 0 M ρ
    else if pc = 1483 then
      if ρ.2.1 q1 = 22 then
      if 0 < e then
      (fGB n (e - 1) 3000 q1 s0 0 0 0 0 0 0 0 0 0 0 M ρ).bind fun p124 =>
      ao_cs p124.1 (fun _ => fGB n e 1486 r0 x1 x2 x3 0 0 0 0 0 0 0 0 p124.2.1 p124.2.2) (fun E => some (.inr E, p124.2.1, p124.2.2))
      else none
      else none
    else if pc = 1486 then
      some (.inl 0, M, ρ)
    else if pc = 2000 then
      if ρ.2.1 r0 = 22 then
      (gX12_make r0 (20 : Int32) (0 : Int32) (0 : Int32) M ρ).bind fun p2 =>
      ao_let p2.1 fun v3 =>
      if 0 < e then
      (fGB n (e - 1) 0 r0 0 0 0 0 0 0 0 0 0 0 0 p2.2 ρ).bind fun p4 =>
      ao_cs p4.1 (fun _ => fGB n e 2013 r0 v3 0 0 0 0 0 0 0 0 0 0 p4.2.1 p4.2.2) (fun E => some (.inr E, p4.2.1, p4.2.2))
      else none
      else none
    else if pc = 2013 then
      if ρ.2.1 r0 = 22 then
      (gX12_make r0 (21 : Int32) (0 : Int32) (0 : Int32) M ρ).bind fun p8 =>
      ao_let p8.1 fun v9 =>
      (gX12_make r0 (12 : Int32) (0 : Int32) (0 : Int32) p8.2 ρ).bind fun p10 =>
      ao_let p10.1 fun v11 =>
      (gX12_isWord r0 (11 : Int32) p10.2 ρ).bind fun p12 =>
      if p12.1 = 0 then
        (gX12_wrong r0 (p12.2 r0 11) p12.2 ρ).bind fun p28 =>
        if ρ.2.1 p28.1 = 21 then
        some (.inr RX11, p28.2, ρ)
        else none
      else
        (gX12_token n r0 p12.2 ρ).bind fun p14 =>
        if (p14 r0 9) = (2 : Int32) then
          (ρ.1 r0 12).bind fun j16 =>
          if ρ.2.1 j16 = 0 then
          if ¬ ((((3 : Int32) * x1) + (2 : Int32)) < 0 ∨ ρ.2.2.1 j16 ≤ (((3 : Int32) * x1) + (2 : Int32)).toNatClampNeg) then
          ao_let (ao_u p14 j16 (((3 : Int32) * x1) + (2 : Int32)).toNatClampNeg (p14 r0 10)) fun M19 =>
          (gX12_token n r0 M19 ρ).bind fun p20 =>
          if ¬ ((((3 : Int32) * x1) + (1 : Int32)) < 0 ∨ ρ.2.2.1 j16 ≤ (((3 : Int32) * x1) + (1 : Int32)).toNatClampNeg) then
          ao_let (ao_u p20 j16 (((3 : Int32) * x1) + (1 : Int32)).toNatClampNeg (p20 r0 13)) fun M22 =>
          if 0 < e then
          (fGB n (e - 1) 0 r0 0 0 0 0 0 0 0 0 0 0 0 M22 ρ).bind fun p23 =>
          ao_cs p23.1 (fun _ => fGB n e 2106 r0 x1 v9 v11 0 0 0 0 0 0 0 0 p23.2.1 p23.2.2) (fun E => some (.inr E, p23.2.1, p23.2.2))
          else none
          else none
          else none
          else none
        else
          (gX12_wrong r0 (p14 r0 11) p14 ρ).bind fun p26 =>
          if ρ.2.1 p26.1 = 21 then
          some (.inr RX11, p26.2, ρ)
          else none
      else none
    else if pc = 2106 then
      if ρ.2.1 r0 = 22 then
      (ρ.1 r0 12).bind fun j31 =>
      if ρ.2.1 j31 = 0 then
      if ¬ ((((3 : Int32) * x3) + (1 : Int32)) < 0 ∨ ρ.2.2.1 j31 ≤ (((3 : Int32) * x3) + (1 : Int32)).toNatClampNeg) then
      ao_let (ao_u M j31 (((3 : Int32) * x3) + (1 : Int32)).toNatClampNeg (M r0 13)) fun M34 =>
      some (.inl 0, M34, ρ)
      else none
      else none
      else none
    else if pc = 3000 then
      if ρ.2.1 r0 = 22 then
      ao_let (ao_u M r0 16 ((M r0 16) + (1 : Int32))) fun M2 =>
      (gX12_make r0 (15 : Int32) (0 : Int32) (0 : Int32) M2 ρ).bind fun p3 =>
      ao_let p3.1 fun v4 =>
      if 0 < e then
      (fGB n (e - 1) 0 r0 0 0 0 0 0 0 0 0 0 0 0 p3.2 ρ).bind fun p5 =>
      ao_cs p5.1 (fun _ => fGB n e 3023 r0 x1 v4 0 0 0 0 0 0 0 0 0 p5.2.1 p5.2.2) (fun E => some (.inr E, p5.2.1, p5.2.2))
      else none
      else none
    else if pc = 3023 then
      if ρ.2.1 r0 = 22 then
      (gX12_make r0 (16 : Int32) (0 : Int32) (0 : Int32) M ρ).bind fun p9 =>
      ao_let p9.1 fun v10 =>
      (gX12_isWord r0 (6 : Int32) p9.2 ρ).bind fun p11 =>
      if p11.1 = 0 then
        fGB n e 3092 r0 x1 x2 v10 (-1 : Int32) 0 0 0 0 0 0 0 p11.2 ρ
      else
        (gX12_token n r0 p11.2 ρ).bind fun p13 =>
        (gX12_make r0 (12 : Int32) (0 : Int32) (0 : Int32) p13 ρ).bind fun p14 =>
        ao_let p14.1 fun v15 =>
        ao_let (p14.2 r0 13) fun v16 =>
        if 0 < e then
        (fGB n (e - 1) 0 r0 0 0 0 0 0 0 0 0 0 0 0 p14.2 ρ).bind fun p17 =>
        ao_cs p17.1 (fun _ => fGB n e 3068 r0 x1 x2 v10 v16 v15 0 0 0 0 0 0 p17.2.1 p17.2.2) (fun E => some (.inr E, p17.2.1, p17.2.2))
        else none
      else none
    else if pc = 3068 then
      if ρ.2.1 r0 = 22 then
      (gX12_make r0 (16 : Int32) (0 : Int32) (0 : Int32) M ρ).bind fun p21 =>
      ao_let p21.1 fun v22 =>
      (ρ.1 r0 12).bind fun j23 =>
      if ρ.2.1 j23 = 0 then
      if ¬ ((((3 : Int32) * x5) + (1 : Int32)) < 0 ∨ ρ.2.2.1 j23 ≤ (((3 : Int32) * x5) + (1 : Int32)).toNatClampNeg) then
      ao_let (ao_u p21.2 j23 (((3 : Int32) * x5) + (1 : Int32)).toNatClampNeg (p21.2 r0 13)) fun M26 =>
      fGB n e 3092 r0 x1 x2 v22 x4 0 0 0 0 0 0 0 M26 ρ
      else none
      else none
      else none
    else if pc = 3092 then
      if ρ.2.1 r0 = 22 then
      (ρ.1 r0 12).bind fun j28 =>
      if x1 = 0 then
        fGB n e 3116 r0 x1 x2 x3 x4 0 0 (0 : Int32) 0 ((2 : Int32) * (x4 + (1 : Int32))) (((3 : Int32) * x2) + (1 : Int32)) j28 M ρ
      else
        fGB n e 3116 r0 x1 x2 x3 x4 0 0 (1 : Int32) 0 ((2 : Int32) * (x4 + (1 : Int32))) (((3 : Int32) * x2) + (1 : Int32)) j28 M ρ
      else none
    else if pc = 3116 then
      if ρ.2.1 q3 = 0 then
      if ¬ (s2 < 0 ∨ ρ.2.2.1 q3 ≤ s2.toNatClampNeg) then
      ao_let (ao_u M q3 s2.toNatClampNeg (s1 + s0)) fun M32 =>
      if ρ.2.1 r0 = 22 then
      (ρ.1 r0 12).bind fun j34 =>
      if ρ.2.1 j34 = 0 then
      if ¬ ((((3 : Int32) * x2) + (2 : Int32)) < 0 ∨ ρ.2.2.1 j34 ≤ (((3 : Int32) * x2) + (2 : Int32)).toNatClampNeg) then
      ao_let (ao_u M32 j34 (((3 : Int32) * x2) + (2 : Int32)).toNatClampNeg (M32 r0 13)) fun M37 =>
      ao_let (ao_u M37 r0 16 ((M37 r0 16) - (1 : Int32))) fun M38 =>
      some (.inl 0, M38, ρ)
      else none
      else none
      else none
      else none
      else none
    else none
set_option maxRecDepth 100000 in
set_option maxHeartbeats 4000000 in
theorem mGB : ∀ n : Nat, (∀ (e : Nat) (r0 : Nat) (M : ao_M) (ρ : ao_H) (y : (Int32 ⊕ String) × ao_S), fGB n e 0 r0 0 0 0 0 0 0 0 0 0 0 0 M ρ = some y → ao_le ρ y.2.2) ∧ (∀ (e : Nat) (r0 : Nat) (M : ao_M) (ρ : ao_H) (y : (Int32 ⊕ String) × ao_S), fGB n e 22 r0 0 0 0 0 0 0 0 0 0 0 0 M ρ = some y → ao_le ρ y.2.2) ∧ (∀ (e : Nat) (r0 : Nat) (M : ao_M) (ρ : ao_H) (y : (Int32 ⊕ String) × ao_S), fGB n e 26 r0 0 0 0 0 0 0 0 0 0 0 0 M ρ = some y → ao_le ρ y.2.2) ∧ (∀ (e : Nat) (r0 : Nat) (M : ao_M) (ρ : ao_H) (y : (Int32 ⊕ String) × ao_S), fGB n e 39 r0 0 0 0 0 0 0 0 0 0 0 0 M ρ = some y → ao_le ρ y.2.2) ∧ (∀ (e : Nat) (r0 : Nat) (M : ao_M) (ρ : ao_H) (y : (Int32 ⊕ String) × ao_S), fGB n e 1000 r0 0 0 0 0 0 0 0 0 0 0 0 M ρ = some y → ao_le ρ y.2.2) ∧ (∀ (e : Nat) (r0 : Nat) (M : ao_M) (ρ : ao_H) (y : (Int32 ⊕ String) × ao_S), fGB n e 1014 r0 0 0 0 0 0 0 0 0 0 0 0 M ρ = some y → ao_le ρ y.2.2) ∧ (∀ (e : Nat) (r0 : Nat) (x1 : Int32) (x2 : Int32) (M : ao_M) (ρ : ao_H) (y : (Int32 ⊕ String) × ao_S), fGB n e 1065 r0 x1 x2 0 0 0 0 0 0 0 0 0 M ρ = some y → ao_le ρ y.2.2) ∧ (∀ (e : Nat) (r0 : Nat) (x1 : Int32) (x2 : Int32) (M : ao_M) (ρ : ao_H) (y : (Int32 ⊕ String) × ao_S), fGB n e 1069 r0 x1 x2 0 0 0 0 0 0 0 0 0 M ρ = some y → ao_le ρ y.2.2) ∧ (∀ (e : Nat) (r0 : Nat) (x1 : Int32) (x2 : Int32) (s0 : Int32) (M : ao_M) (ρ : ao_H) (y : (Int32 ⊕ String) × ao_S), fGB n e 1070 r0 x1 x2 0 0 0 0 s0 0 0 0 0 M ρ = some y → ao_le ρ y.2.2) ∧ (∀ (e : Nat) (r0 : Nat) (x1 : Int32) (x2 : Int32) (x3 : Int32) (M : ao_M) (ρ : ao_H) (y : (Int32 ⊕ String) × ao_S), fGB n e 1092 r0 x1 x2 x3 0 0 0 0 0 0 0 0 M ρ = some y → ao_le ρ y.2.2) ∧ (∀ (e : Nat) (r0 : Nat) (x1 : Int32) (x2 : Int32) (x3 : Int32) (M : ao_M) (ρ : ao_H) (y : (Int32 ⊕ String) × ao_S), fGB n e 1099 r0 x1 x2 x3 0 0 0 0 0 0 0 0 M ρ = some y → ao_le ρ y.2.2) ∧ (∀ (e : Nat) (r0 : Nat) (x1 : Int32) (x2 : Int32) (x3 : Int32) (M : ao_M) (ρ : ao_H) (y : (Int32 ⊕ String) × ao_S), fGB n e 1108 r0 x1 x2 x3 0 0 0 0 0 0 0 0 M ρ = some y → ao_le ρ y.2.2) ∧ (∀ (e : Nat) (r0 : Nat) (x1 : Int32) (x2 : Int32) (x3 : Int32) (M : ao_M) (ρ : ao_H) (y : (Int32 ⊕ String) × ao_S), fGB n e 1152 r0 x1 x2 x3 0 0 0 0 0 0 0 0 M ρ = some y → ao_le ρ y.2.2) ∧ (∀ (e : Nat) (r0 : Nat) (x1 : Int32) (x2 : Int32) (x3 : Int32) (M : ao_M) (ρ : ao_H) (y : (Int32 ⊕ String) × ao_S), fGB n e 1156 r0 x1 x2 x3 0 0 0 0 0 0 0 0 M ρ = some y → ao_le ρ y.2.2) ∧ (∀ (e : Nat) (r0 : Nat) (x1 : Int32) (x2 : Int32) (x3 : Int32) (M : ao_M) (ρ : ao_H) (y : (Int32 ⊕ String) × ao_S), fGB n e 1162 r0 x1 x2 x3 0 0 0 0 0 0 0 0 M ρ = some y → ao_le ρ y.2.2) ∧ (∀ (e : Nat) (r0 : Nat) (x1 : Int32) (x2 : Int32) (x3 : Int32) (s0 : Int32) (q1 : Nat) (M : ao_M) (ρ : ao_H) (y : (Int32 ⊕ String) × ao_S), fGB n e 1175 r0 x1 x2 x3 0 0 0 s0 q1 0 0 0 M ρ = some y → ao_le ρ y.2.2) ∧ (∀ (e : Nat) (r0 : Nat) (x1 : Int32) (x2 : Int32) (x3 : Int32) (M : ao_M) (ρ : ao_H) (y : (Int32 ⊕ String) × ao_S), fGB n e 1248 r0 x1 x2 x3 0 0 0 0 0 0 0 0 M ρ = some y → ao_le ρ y.2.2) ∧ (∀ (e : Nat) (r0 : Nat) (x1 : Int32) (x2 : Int32) (x3 : Int32) (x5 : Int32) (M : ao_M) (ρ : ao_H) (y : (Int32 ⊕ String) × ao_S), fGB n e 1262 r0 x1 x2 x3 0 x5 0 0 0 0 0 0 M ρ = some y → ao_le ρ y.2.2) ∧ (∀ (e : Nat) (r0 : Nat) (x1 : Int32) (x2 : Int32) (x3 : Int32) (x5 : Int32) (x6 : Int32) (M : ao_M) (ρ : ao_H) (y : (Int32 ⊕ String) × ao_S), fGB n e 1303 r0 x1 x2 x3 0 x5 x6 0 0 0 0 0 M ρ = some y → ao_le ρ y.2.2) ∧ (∀ (e : Nat) (r0 : Nat) (x1 : Int32) (x2 : Int32) (x3 : Int32) (x5 : Int32) (M : ao_M) (ρ : ao_H) (y : (Int32 ⊕ String) × ao_S), fGB n e 1349 r0 x1 x2 x3 0 x5 0 0 0 0 0 0 M ρ = some y → ao_le ρ y.2.2) ∧ (∀ (e : Nat) (r0 : Nat) (x1 : Int32) (x2 : Int32) (x3 : Int32) (x4 : Int32) (x5 : Int32) (x6 : Int32) (M : ao_M) (ρ : ao_H) (y : (Int32 ⊕ String) × ao_S), fGB n e 1373 r0 x1 x2 x3 x4 x5 x6 0 0 0 0 0 M ρ = some y → ao_le ρ y.2.2) ∧ (∀ (e : Nat) (r0 : Nat) (x1 : Int32) (x2 : Int32) (x3 : Int32) (M : ao_M) (ρ : ao_H) (y : (Int32 ⊕ String) × ao_S), fGB n e 1402 r0 x1 x2 x3 0 0 0 0 0 0 0 0 M ρ = some y → ao_le ρ y.2.2) ∧ (∀ (e : Nat) (r0 : Nat) (x1 : Int32) (x2 : Int32) (x3 : Int32) (M : ao_M) (ρ : ao_H) (y : (Int32 ⊕ String) × ao_S), fGB n e 1406 r0 x1 x2 x3 0 0 0 0 0 0 0 0 M ρ = some y → ao_le ρ y.2.2) ∧ (∀ (e : Nat) (r0 : Nat) (x1 : Int32) (x2 : Int32) (x3 : Int32) (M : ao_M) (ρ : ao_H) (y : (Int32 ⊕ String) × ao_S), fGB n e 1412 r0 x1 x2 x3 0 0 0 0 0 0 0 0 M ρ = some y → ao_le ρ y.2.2) ∧ (∀ (e : Nat) (r0 : Nat) (x1 : Int32) (x2 : Int32) (x3 : Int32) (s0 : Int32) (q1 : Nat) (M : ao_M) (ρ : ao_H) (y : (Int32 ⊕ String) × ao_S), fGB n e 1425 r0 x1 x2 x3 0 0 0 s0 q1 0 0 0 M ρ = some y → ao_le ρ y.2.2) ∧ (∀ (e : Nat) (r0 : Nat) (x1 : Int32) (x2 : Int32) (x3 : Int32) (M : ao_M) (ρ : ao_H) (y : (Int32 ⊕ String) × ao_S), fGB n e 1435 r0 x1 x2 x3 0 0 0 0 0 0 0 0 M ρ = some y → ao_le ρ y.2.2) ∧ (∀ (e : Nat) (r0 : Nat) (x1 : Int32) (x2 : Int32) (x3 : Int32) (M : ao_M) (ρ : ao_H) (y : (Int32 ⊕ String) × ao_S), fGB n e 1441 r0 x1 x2 x3 0 0 0 0 0 0 0 0 M ρ = some y → ao_le ρ y.2.2) ∧ (∀ (e : Nat) (r0 : Nat) (x1 : Int32) (x2 : Int32) (x3 : Int32) (s0 : Int32) (q1 : Nat) (M : ao_M) (ρ : ao_H) (y : (Int32 ⊕ String) × ao_S), fGB n e 1455 r0 x1 x2 x3 0 0 0 s0 q1 0 0 0 M ρ = some y → ao_le ρ y.2.2) ∧ (∀ (e : Nat) (r0 : Nat) (x1 : Int32) (x2 : Int32) (x3 : Int32) (M : ao_M) (ρ : ao_H) (y : (Int32 ⊕ String) × ao_S), fGB n e 1469 r0 x1 x2 x3 0 0 0 0 0 0 0 0 M ρ = some y → ao_le ρ y.2.2) ∧ (∀ (e : Nat) (r0 : Nat) (x1 : Int32) (x2 : Int32) (x3 : Int32) (M : ao_M) (ρ : ao_H) (y : (Int32 ⊕ String) × ao_S), fGB n e 1472 r0 x1 x2 x3 0 0 0 0 0 0 0 0 M ρ = some y → ao_le ρ y.2.2) ∧ (∀ (e : Nat) (r0 : Nat) (x1 : Int32) (x2 : Int32) (x3 : Int32) (s0 : Int32) (q1 : Nat) (M : ao_M) (ρ : ao_H) (y : (Int32 ⊕ String) × ao_S), fGB n e 1483 r0 x1 x2 x3 0 0 0 s0 q1 0 0 0 M ρ = some y → ao_le ρ y.2.2) ∧ (∀ (e : Nat) (r0 : Nat) (x1 : Int32) (x2 : Int32) (x3 : Int32) (M : ao_M) (ρ : ao_H) (y : (Int32 ⊕ String) × ao_S), fGB n e 1486 r0 x1 x2 x3 0 0 0 0 0 0 0 0 M ρ = some y → ao_le ρ y.2.2) ∧ (∀ (e : Nat) (r0 : Nat) (M : ao_M) (ρ : ao_H) (y : (Int32 ⊕ String) × ao_S), fGB n e 2000 r0 0 0 0 0 0 0 0 0 0 0 0 M ρ = some y → ao_le ρ y.2.2) ∧ (∀ (e : Nat) (r0 : Nat) (x1 : Int32) (M : ao_M) (ρ : ao_H) (y : (Int32 ⊕ String) × ao_S), fGB n e 2013 r0 x1 0 0 0 0 0 0 0 0 0 0 M ρ = some y → ao_le ρ y.2.2) ∧ (∀ (e : Nat) (r0 : Nat) (x1 : Int32) (x2 : Int32) (x3 : Int32) (M : ao_M) (ρ : ao_H) (y : (Int32 ⊕ String) × ao_S), fGB n e 2106 r0 x1 x2 x3 0 0 0 0 0 0 0 0 M ρ = some y → ao_le ρ y.2.2) ∧ (∀ (e : Nat) (r0 : Nat) (x1 : Int32) (M : ao_M) (ρ : ao_H) (y : (Int32 ⊕ String) × ao_S), fGB n e 3000 r0 x1 0 0 0 0 0 0 0 0 0 0 M ρ = some y → ao_le ρ y.2.2) ∧ (∀ (e : Nat) (r0 : Nat) (x1 : Int32) (x2 : Int32) (M : ao_M) (ρ : ao_H) (y : (Int32 ⊕ String) × ao_S), fGB n e 3023 r0 x1 x2 0 0 0 0 0 0 0 0 0 M ρ = some y → ao_le ρ y.2.2) ∧ (∀ (e : Nat) (r0 : Nat) (x1 : Int32) (x2 : Int32) (x3 : Int32) (x4 : Int32) (x5 : Int32) (M : ao_M) (ρ : ao_H) (y : (Int32 ⊕ String) × ao_S), fGB n e 3068 r0 x1 x2 x3 x4 x5 0 0 0 0 0 0 M ρ = some y → ao_le ρ y.2.2) ∧ (∀ (e : Nat) (r0 : Nat) (x1 : Int32) (x2 : Int32) (x3 : Int32) (x4 : Int32) (M : ao_M) (ρ : ao_H) (y : (Int32 ⊕ String) × ao_S), fGB n e 3092 r0 x1 x2 x3 x4 0 0 0 0 0 0 0 M ρ = some y → ao_le ρ y.2.2) ∧ (∀ (e : Nat) (r0 : Nat) (x1 : Int32) (x2 : Int32) (x3 : Int32) (x4 : Int32) (s0 : Int32) (s1 : Int32) (s2 : Int32) (q3 : Nat) (M : ao_M) (ρ : ao_H) (y : (Int32 ⊕ String) × ao_S), fGB n e 3116 r0 x1 x2 x3 x4 0 0 s0 0 s1 s2 q3 M ρ = some y → ao_le ρ y.2.2) := by
  intro n
  induction n with
  | zero => exact ⟨fun _ _ _ _ _ h => ao_no h, fun _ _ _ _ _ h => ao_no h, fun _ _ _ _ _ h => ao_no h, fun _ _ _ _ _ h => ao_no h, fun _ _ _ _ _ h => ao_no h, fun _ _ _ _ _ h => ao_no h, fun _ _ _ _ _ _ _ h => ao_no h, fun _ _ _ _ _ _ _ h => ao_no h, fun _ _ _ _ _ _ _ _ h => ao_no h, fun _ _ _ _ _ _ _ _ h => ao_no h, fun _ _ _ _ _ _ _ _ h => ao_no h, fun _ _ _ _ _ _ _ _ h => ao_no h, fun _ _ _ _ _ _ _ _ h => ao_no h, fun _ _ _ _ _ _ _ _ h => ao_no h, fun _ _ _ _ _ _ _ _ h => ao_no h, fun _ _ _ _ _ _ _ _ _ _ h => ao_no h, fun _ _ _ _ _ _ _ _ h => ao_no h, fun _ _ _ _ _ _ _ _ _ h => ao_no h, fun _ _ _ _ _ _ _ _ _ _ h => ao_no h, fun _ _ _ _ _ _ _ _ _ h => ao_no h, fun _ _ _ _ _ _ _ _ _ _ _ h => ao_no h, fun _ _ _ _ _ _ _ _ h => ao_no h, fun _ _ _ _ _ _ _ _ h => ao_no h, fun _ _ _ _ _ _ _ _ h => ao_no h, fun _ _ _ _ _ _ _ _ _ _ h => ao_no h, fun _ _ _ _ _ _ _ _ h => ao_no h, fun _ _ _ _ _ _ _ _ h => ao_no h, fun _ _ _ _ _ _ _ _ _ _ h => ao_no h, fun _ _ _ _ _ _ _ _ h => ao_no h, fun _ _ _ _ _ _ _ _ h => ao_no h, fun _ _ _ _ _ _ _ _ _ _ h => ao_no h, fun _ _ _ _ _ _ _ _ h => ao_no h, fun _ _ _ _ _ h => ao_no h, fun _ _ _ _ _ _ h => ao_no h, fun _ _ _ _ _ _ _ _ h => ao_no h, fun _ _ _ _ _ _ h => ao_no h, fun _ _ _ _ _ _ _ h => ao_no h, fun _ _ _ _ _ _ _ _ _ _ h => ao_no h, fun _ _ _ _ _ _ _ _ _ h => ao_no h, fun _ _ _ _ _ _ _ _ _ _ _ _ _ h => ao_no h⟩
  | succ n ih =>
    refine ⟨?_, ?_, ?_, ?_, ?_, ?_, ?_, ?_, ?_, ?_, ?_, ?_, ?_, ?_, ?_, ?_, ?_, ?_, ?_, ?_, ?_, ?_, ?_, ?_, ?_, ?_, ?_, ?_, ?_, ?_, ?_, ?_, ?_, ?_, ?_, ?_, ?_, ?_, ?_, ?_⟩
    · intro e r0 M ρ y h
      replace h := ao_ifT h rfl
      obtain ⟨-, h⟩ := ao_some h
      obtain ⟨p2, hp2, h⟩ := ao_bind h
      rcases ao_ifC h with h | h
      · obtain ⟨p6, hp6, h⟩ := ao_bind h
        obtain ⟨-, h⟩ := ao_some h
        cases h
        exact ao_le_rf _
      · obtain ⟨p4, hp4, h⟩ := ao_bind h
        exact ao_le_tr (me_X12_enter n r0 p2.2 ρ hp4) (ao_csM h (fun _ h => ih.2.1 e r0 p4.2.1 p4.2.2 _ h) (fun _ h => by cases h; exact ao_le_rf _))
    · intro e r0 M ρ y h
      replace h := ao_ifF h (by decide)
      replace h := ao_ifT h rfl
      obtain ⟨-, h⟩ := ao_some h
      obtain ⟨p9, hp9, h⟩ := ao_bind h
      exact ih.2.2.1 e r0 p9 ρ _ h
    · intro e r0 M ρ y h
      replace h := ao_ifF h (by decide)
      replace h := ao_ifF h (by decide)
      replace h := ao_ifT h rfl
      obtain ⟨-, h⟩ := ao_some h
      obtain ⟨p11, hp11, h⟩ := ao_bind h
      rcases ao_ifC h with h | h
      · obtain ⟨-, h⟩ := ao_some h
        obtain ⟨p15, hp15, h⟩ := ao_bind h
        exact ao_le_tr (ih.2.2.2.2.1 (e - 1) r0 p11.2 ρ _ hp15) (ao_csM h (fun _ h => ih.2.2.2.1 e r0 p15.2.1 p15.2.2 _ h) (fun _ h => by cases h; exact ao_le_rf _))
      · obtain ⟨p13, hp13, h⟩ := ao_bind h
        replace h := ao_letD h rfl
        generalize (ao_u p13 r0 14 ((p13 r0 14) - (1 : Int32))) = M14 at h
        cases h
        exact ao_le_rf _
    · intro e r0 M ρ y h
      replace h := ao_ifF h (by decide)
      replace h := ao_ifF h (by decide)
      replace h := ao_ifF h (by decide)
      replace h := ao_ifT h rfl
      exact ih.2.2.1 e r0 M ρ _ h
    · intro e r0 M ρ y h
      replace h := ao_ifF h (by decide)
      replace h := ao_ifF h (by decide)
      replace h := ao_ifF h (by decide)
      replace h := ao_ifF h (by decide)
      replace h := ao_ifT h rfl
      obtain ⟨-, h⟩ := ao_some h
      rcases ao_ifC h with h | h
      · exact ih.2.2.2.2.2.1 e r0 M ρ _ h
      · rcases ao_ifC h with h | h
        · replace h := ao_letD h rfl
          generalize (M r0 9) = v4 at h
          replace h := ao_letD h rfl
          generalize (M r0 10) = v5 at h
          rcases ao_ifC h with h | h
          · exact ih.2.2.2.2.2.2.1 e r0 v4 v5 M ρ _ h
          · rcases ao_ifC h with h | h
            · exact ih.2.2.2.2.2.2.1 e r0 v4 v5 M ρ _ h
            · rcases ao_ifC h with h | h
              · rcases ao_ifC h with h | h
                · exact ih.2.2.2.2.2.2.2.1 e r0 v4 v5 M ρ _ h
                · rcases ao_ifC h with h | h
                  · exact ih.2.2.2.2.2.2.2.1 e r0 v4 v5 M ρ _ h
                  · rcases ao_ifC h with h | h
                    · exact ih.2.2.2.2.2.2.2.1 e r0 v4 v5 M ρ _ h
                    · exact ih.2.2.2.2.2.2.1 e r0 v4 v5 M ρ _ h
              · exact ih.2.2.2.2.2.2.2.1 e r0 v4 v5 M ρ _ h
        · exact ih.2.2.2.2.2.1 e r0 M ρ _ h
    · intro e r0 M ρ y h
      replace h := ao_ifF h (by decide)
      replace h := ao_ifF h (by decide)
      replace h := ao_ifF h (by decide)
      replace h := ao_ifF h (by decide)
      replace h := ao_ifF h (by decide)
      replace h := ao_ifT h rfl
      obtain ⟨-, h⟩ := ao_some h
      obtain ⟨p13, hp13, h⟩ := ao_bind h
      obtain ⟨-, h⟩ := ao_some h
      cases h
      exact ao_le_rf _
    · intro e r0 x1 x2 M ρ y h
      replace h := ao_ifF h (by decide)
      replace h := ao_ifF h (by decide)
      replace h := ao_ifF h (by decide)
      replace h := ao_ifF h (by decide)
      replace h := ao_ifF h (by decide)
      replace h := ao_ifF h (by decide)
      replace h := ao_ifT h rfl
      exact ih.2.2.2.2.2.2.2.2.1 e r0 x1 x2 (1 : Int32) M ρ _ h
    · intro e r0 x1 x2 M ρ y h
      replace h := ao_ifF h (by decide)
      replace h := ao_ifF h (by decide)
      replace h := ao_ifF h (by decide)
      replace h := ao_ifF h (by decide)
      replace h := ao_ifF h (by decide)
      replace h := ao_ifF h (by decide)
      replace h := ao_ifF h (by decide)
      replace h := ao_ifT h rfl
      exact ih.2.2.2.2.2.2.2.2.1 e r0 x1 x2 (0 : Int32) M ρ _ h
    · intro e r0 x1 x2 s0 M ρ y h
      replace h := ao_ifF h (by decide)
      replace h := ao_ifF h (by decide)
      replace h := ao_ifF h (by decide)
      replace h := ao_ifF h (by decide)
      replace h := ao_ifF h (by decide)
      replace h := ao_ifF h (by decide)
      replace h := ao_ifF h (by decide)
      replace h := ao_ifF h (by decide)
      replace h := ao_ifT h rfl
      rcases ao_ifC h with h | h
      · exact ih.2.2.2.2.2.2.2.2.2.2.1 e r0 x1 x2 s0 M ρ _ h
      · rcases ao_ifC h with h | h
        · rcases ao_ifC h with h | h
          · exact ih.2.2.2.2.2.2.2.2.2.1 e r0 x1 x2 s0 M ρ _ h
          · rcases ao_ifC h with h | h
            · exact ih.2.2.2.2.2.2.2.2.2.1 e r0 x1 x2 s0 M ρ _ h
            · exact ih.2.2.2.2.2.2.2.2.2.2.2.1 e r0 x1 x2 s0 M ρ _ h
        · exact ih.2.2.2.2.2.2.2.2.2.2.2.1 e r0 x1 x2 s0 M ρ _ h
    · intro e r0 x1 x2 x3 M ρ y h
      replace h := ao_ifF h (by decide)
      replace h := ao_ifF h (by decide)
      replace h := ao_ifF h (by decide)
      replace h := ao_ifF h (by decide)
      replace h := ao_ifF h (by decide)
      replace h := ao_ifF h (by decide)
      replace h := ao_ifF h (by decide)
      replace h := ao_ifF h (by decide)
      replace h := ao_ifF h (by decide)
      replace h := ao_ifT h rfl
      obtain ⟨-, h⟩ := ao_some h
      rcases ao_ifC h with h | h
      · exact ih.2.2.2.2.2.2.2.2.2.2.1 e r0 x1 x2 x3 M ρ _ h
      · exact ih.2.2.2.2.2.2.2.2.2.2.2.1 e r0 x1 x2 x3 M ρ _ h
    · intro e r0 x1 x2 x3 M ρ y h
      replace h := ao_ifF h (by decide)
      replace h := ao_ifF h (by decide)
      replace h := ao_ifF h (by decide)
      replace h := ao_ifF h (by decide)
      replace h := ao_ifF h (by decide)
      replace h := ao_ifF h (by decide)
      replace h := ao_ifF h (by decide)
      replace h := ao_ifF h (by decide)
      replace h := ao_ifF h (by decide)
      replace h := ao_ifF h (by decide)
      replace h := ao_ifT h rfl
      obtain ⟨-, h⟩ := ao_some h
      obtain ⟨p22, hp22, h⟩ := ao_bind h
      obtain ⟨-, h⟩ := ao_some h
      cases h
      exact ao_le_rf _
    · intro e r0 x1 x2 x3 M ρ y h
      replace h := ao_ifF h (by decide)
      replace h := ao_ifF h (by decide)
      replace h := ao_ifF h (by decide)
      replace h := ao_ifF h (by decide)
      replace h := ao_ifF h (by decide)
      replace h := ao_ifF h (by decide)
      replace h := ao_ifF h (by decide)
      replace h := ao_ifF h (by decide)
      replace h := ao_ifF h (by decide)
      replace h := ao_ifF h (by decide)
      replace h := ao_ifF h (by decide)
      replace h := ao_ifT h rfl
      obtain ⟨-, h⟩ := ao_some h
      rcases ao_ifC h with h | h
      · obtain ⟨p50, hp50, h⟩ := ao_bind h
        obtain ⟨-, h⟩ := ao_some h
        cases h
        exact ao_le_rf _
      · replace h := ao_letD h rfl
        generalize (ao_u M r0 15 ((M r0 15) + (1 : Int32))) = M26 at h
        obtain ⟨p27, hp27, h⟩ := ao_bind h
        rcases ao_ifC h with h | h
        · rcases ao_ifC h with h | h
          · obtain ⟨p30, hp30, h⟩ := ao_bind h
            exact ao_le_tr (me_X12_condition n r0 p27 ρ hp30) (ao_csM h (fun _ h => ih.2.2.2.2.2.2.2.2.2.2.2.2.2.2.2.2.1 e r0 x1 x2 x3 p30.2.1 p30.2.2 _ h) (fun _ h => by cases h; exact ao_le_rf _))
          · rcases ao_ifC h with h | h
            · replace h := ao_letD h rfl
              generalize (p27 r0 13) = v33 at h
              obtain ⟨p34, hp34, h⟩ := ao_bind h
              exact ao_le_tr (me_X12_condition n r0 p27 ρ hp34) (ao_csM h (fun _ h => ih.2.2.2.2.2.2.2.2.2.2.2.2.2.2.2.2.2.2.2.1 e r0 x1 x2 x3 v33 p34.2.1 p34.2.2 _ h) (fun _ h => by cases h; exact ao_le_rf _))
            · rcases ao_ifC h with h | h
              · exact ih.2.2.2.2.2.2.2.2.2.2.2.2.2.2.2.2.2.2.2.2.2.1 e r0 x1 x2 x3 p27 ρ _ h
              · rcases ao_ifC h with h | h
                · exact ih.2.2.2.2.2.2.2.2.2.2.2.2.2.2.2.2.2.2.2.2.2.2.2.2.2.1 e r0 x1 x2 x3 p27 ρ _ h
                · rcases ao_ifC h with h | h
                  · exact ih.2.2.2.2.2.2.2.2.2.2.2.2.2.2.2.2.2.2.2.2.2.2.2.2.2.1 e r0 x1 x2 x3 p27 ρ _ h
                  · rcases ao_ifC h with h | h
                    · exact ih.2.2.2.2.2.2.2.2.2.2.2.2.2.2.2.2.2.2.2.2.2.1 e r0 x1 x2 x3 p27 ρ _ h
                    · rcases ao_ifC h with h | h
                      · obtain ⟨-, h⟩ := ao_some h
                        obtain ⟨p41, hp41, h⟩ := ao_bind h
                        exact ao_le_tr (ih.2.2.2.2.2.2.2.2.2.2.2.2.2.2.2.2.2.2.2.2.2.2.2.2.2.2.2.2.2.2.2.2.1 (e - 1) r0 p27 ρ _ hp41) (ao_csM h (fun _ h => ih.2.2.2.2.2.2.2.2.2.2.2.2.2.2.2.2.2.2.2.2.2.2.2.2.2.2.2.2.1 e r0 x1 x2 x3 p41.2.1 p41.2.2 _ h) (fun _ h => by cases h; exact ao_le_rf _))
                      · exact ih.2.2.2.2.2.2.2.2.2.2.2.2.2.2.2.2.2.2.2.2.2.2.2.2.2.2.2.2.2.1 e r0 x1 x2 x3 p27 ρ _ h
        · obtain ⟨p48, hp48, h⟩ := ao_bind h
          exact ao_le_tr (me_X12_need n r0 (61 : Int32) p27 ρ hp48) (ao_csM h (fun _ h => ih.2.2.2.2.2.2.2.2.2.2.2.2.1 e r0 x1 x2 x3 p48.2.1 p48.2.2 _ h) (fun _ h => by cases h; exact ao_le_rf _))
    · intro e r0 x1 x2 x3 M ρ y h
      replace h := ao_ifF h (by decide)
      replace h := ao_ifF h (by decide)
      replace h := ao_ifF h (by decide)
      replace h := ao_ifF h (by decide)
      replace h := ao_ifF h (by decide)
      replace h := ao_ifF h (by decide)
      replace h := ao_ifF h (by decide)
      replace h := ao_ifF h (by decide)
      replace h := ao_ifF h (by decide)
      replace h := ao_ifF h (by decide)
      replace h := ao_ifF h (by decide)
      replace h := ao_ifF h (by decide)
      replace h := ao_ifT h rfl
      obtain ⟨-, h⟩ := ao_some h
      obtain ⟨p53, hp53, h⟩ := ao_bind h
      exact ao_le_tr (me_X12_expression n r0 M ρ hp53) (ao_csM h (fun _ h => ih.2.2.2.2.2.2.2.2.2.2.2.2.2.1 e r0 x1 x2 x3 p53.2.1 p53.2.2 _ h) (fun _ h => by cases h; exact ao_le_rf _))
    · intro e r0 x1 x2 x3 M ρ y h
      replace h := ao_ifF h (by decide)
      replace h := ao_ifF h (by decide)
      replace h := ao_ifF h (by decide)
      replace h := ao_ifF h (by decide)
      replace h := ao_ifF h (by decide)
      replace h := ao_ifF h (by decide)
      replace h := ao_ifF h (by decide)
      replace h := ao_ifF h (by decide)
      replace h := ao_ifF h (by decide)
      replace h := ao_ifF h (by decide)
      replace h := ao_ifF h (by decide)
      replace h := ao_ifF h (by decide)
      replace h := ao_ifF h (by decide)
      replace h := ao_ifT h rfl
      obtain ⟨-, h⟩ := ao_some h
      obtain ⟨p56, hp56, h⟩ := ao_bind h
      exact ao_le_tr (me_X12_need n r0 (59 : Int32) M ρ hp56) (ao_csM h (fun _ h => ih.2.2.2.2.2.2.2.2.2.2.2.2.2.2.1 e r0 x1 x2 x3 p56.2.1 p56.2.2 _ h) (fun _ h => by cases h; exact ao_le_rf _))
    · intro e r0 x1 x2 x3 M ρ y h
      replace h := ao_ifF h (by decide)
      replace h := ao_ifF h (by decide)
      replace h := ao_ifF h (by decide)
      replace h := ao_ifF h (by decide)
      replace h := ao_ifF h (by decide)
      replace h := ao_ifF h (by decide)
      replace h := ao_ifF h (by decide)
      replace h := ao_ifF h (by decide)
      replace h := ao_ifF h (by decide)
      replace h := ao_ifF h (by decide)
      replace h := ao_ifF h (by decide)
      replace h := ao_ifF h (by decide)
      replace h := ao_ifF h (by decide)
      replace h := ao_ifF h (by decide)
      replace h := ao_ifT h rfl
      rcases ao_ifC h with h | h
      · exact ih.2.2.2.2.2.2.2.2.2.2.2.2.2.2.2.1 e r0 x1 x2 x3 (10 : Int32) r0 M ρ _ h
      · exact ih.2.2.2.2.2.2.2.2.2.2.2.2.2.2.2.1 e r0 x1 x2 x3 (9 : Int32) r0 M ρ _ h
    · intro e r0 x1 x2 x3 s0 q1 M ρ y h
      replace h := ao_ifF h (by decide)
      replace h := ao_ifF h (by decide)
      replace h := ao_ifF h (by decide)
      replace h := ao_ifF h (by decide)
      replace h := ao_ifF h (by decide)
      replace h := ao_ifF h (by decide)
      replace h := ao_ifF h (by decide)
      replace h := ao_ifF h (by decide)
      replace h := ao_ifF h (by decide)
      replace h := ao_ifF h (by decide)
      replace h := ao_ifF h (by decide)
      replace h := ao_ifF h (by decide)
      replace h := ao_ifF h (by decide)
      replace h := ao_ifF h (by decide)
      replace h := ao_ifF h (by decide)
      replace h := ao_ifT h rfl
      obtain ⟨-, h⟩ := ao_some h
      obtain ⟨p60, hp60, h⟩ := ao_bind h
      replace h := ao_letD h rfl
      generalize p60.1 = v61 at h
      cases h
      exact ao_le_rf _
    · intro e r0 x1 x2 x3 M ρ y h
      replace h := ao_ifF h (by decide)
      replace h := ao_ifF h (by decide)
      replace h := ao_ifF h (by decide)
      replace h := ao_ifF h (by decide)
      replace h := ao_ifF h (by decide)
      replace h := ao_ifF h (by decide)
      replace h := ao_ifF h (by decide)
      replace h := ao_ifF h (by decide)
      replace h := ao_ifF h (by decide)
      replace h := ao_ifF h (by decide)
      replace h := ao_ifF h (by decide)
      replace h := ao_ifF h (by decide)
      replace h := ao_ifF h (by decide)
      replace h := ao_ifF h (by decide)
      replace h := ao_ifF h (by decide)
      replace h := ao_ifF h (by decide)
      replace h := ao_ifT h rfl
      obtain ⟨-, h⟩ := ao_some h
      obtain ⟨p63, hp63, h⟩ := ao_bind h
      replace h := ao_letD h rfl
      generalize p63.1 = v64 at h
      obtain ⟨-, h⟩ := ao_some h
      obtain ⟨p65, hp65, h⟩ := ao_bind h
      exact ao_le_tr (ih.1 (e - 1) r0 p63.2 ρ _ hp65) (ao_csM h (fun _ h => ih.2.2.2.2.2.2.2.2.2.2.2.2.2.2.2.2.2.1 e r0 x1 x2 x3 v64 p65.2.1 p65.2.2 _ h) (fun _ h => by cases h; exact ao_le_rf _))
    · intro e r0 x1 x2 x3 x5 M ρ y h
      replace h := ao_ifF h (by decide)
      replace h := ao_ifF h (by decide)
      replace h := ao_ifF h (by decide)
      replace h := ao_ifF h (by decide)
      replace h := ao_ifF h (by decide)
      replace h := ao_ifF h (by decide)
      replace h := ao_ifF h (by decide)
      replace h := ao_ifF h (by decide)
      replace h := ao_ifF h (by decide)
      replace h := ao_ifF h (by decide)
      replace h := ao_ifF h (by decide)
      replace h := ao_ifF h (by decide)
      replace h := ao_ifF h (by decide)
      replace h := ao_ifF h (by decide)
      replace h := ao_ifF h (by decide)
      replace h := ao_ifF h (by decide)
      replace h := ao_ifF h (by decide)
      replace h := ao_ifT h rfl
      obtain ⟨-, h⟩ := ao_some h
      obtain ⟨p69, hp69, h⟩ := ao_bind h
      rcases ao_ifC h with h | h
      · obtain ⟨j71, hj71, h⟩ := ao_bind h
        obtain ⟨-, h⟩ := ao_some h
        obtain ⟨-, h⟩ := ao_some h
        replace h := ao_letD h rfl
        generalize (ao_u p69.2 j71 (((3 : Int32) * x5) + (1 : Int32)).toNatClampNeg (p69.2 r0 13)) = M74 at h
        exact ih.2.2.2.2.2.2.2.2.2.2.2.2.2.2.2.2.2.2.2.2.2.2.2.2.2.2.2.2.2.2.2.1 e r0 x1 x2 x3 M74 ρ _ h
      · obtain ⟨p75, hp75, h⟩ := ao_bind h
        obtain ⟨p76, hp76, h⟩ := ao_bind h
        replace h := ao_letD h rfl
        generalize p76.1 = v77 at h
        obtain ⟨j78, hj78, h⟩ := ao_bind h
        obtain ⟨-, h⟩ := ao_some h
        obtain ⟨-, h⟩ := ao_some h
        replace h := ao_letD h rfl
        generalize (ao_u p76.2 j78 (((3 : Int32) * x5) + (1 : Int32)).toNatClampNeg (p76.2 r0 13)) = M81 at h
        obtain ⟨-, h⟩ := ao_some h
        obtain ⟨p82, hp82, h⟩ := ao_bind h
        exact ao_le_tr (ih.1 (e - 1) r0 M81 ρ _ hp82) (ao_csM h (fun _ h => ih.2.2.2.2.2.2.2.2.2.2.2.2.2.2.2.2.2.2.1 e r0 x1 x2 x3 x5 v77 p82.2.1 p82.2.2 _ h) (fun _ h => by cases h; exact ao_le_rf _))
    · intro e r0 x1 x2 x3 x5 x6 M ρ y h
      replace h := ao_ifF h (by decide)
      replace h := ao_ifF h (by decide)
      replace h := ao_ifF h (by decide)
      replace h := ao_ifF h (by decide)
      replace h := ao_ifF h (by decide)
      replace h := ao_ifF h (by decide)
      replace h := ao_ifF h (by decide)
      replace h := ao_ifF h (by decide)
      replace h := ao_ifF h (by decide)
      replace h := ao_ifF h (by decide)
      replace h := ao_ifF h (by decide)
      replace h := ao_ifF h (by decide)
      replace h := ao_ifF h (by decide)
      replace h := ao_ifF h (by decide)
      replace h := ao_ifF h (by decide)
      replace h := ao_ifF h (by decide)
      replace h := ao_ifF h (by decide)
      replace h := ao_ifF h (by decide)
      replace h := ao_ifT h rfl
      obtain ⟨-, h⟩ := ao_some h
      obtain ⟨j86, hj86, h⟩ := ao_bind h
      obtain ⟨-, h⟩ := ao_some h
      obtain ⟨-, h⟩ := ao_some h
      replace h := ao_letD h rfl
      generalize (ao_u M j86 (((3 : Int32) * x6) + (1 : Int32)).toNatClampNeg (M r0 13)) = M89 at h
      exact ih.2.2.2.2.2.2.2.2.2.2.2.2.2.2.2.2.2.2.2.2.2.2.2.2.2.2.2.2.2.2.2.1 e r0 x1 x2 x3 M89 ρ _ h
    · intro e r0 x1 x2 x3 x5 M ρ y h
      replace h := ao_ifF h (by decide)
      replace h := ao_ifF h (by decide)
      replace h := ao_ifF h (by decide)
      replace h := ao_ifF h (by decide)
      replace h := ao_ifF h (by decide)
      replace h := ao_ifF h (by decide)
      replace h := ao_ifF h (by decide)
      replace h := ao_ifF h (by decide)
      replace h := ao_ifF h (by decide)
      replace h := ao_ifF h (by decide)
      replace h := ao_ifF h (by decide)
      replace h := ao_ifF h (by decide)
      replace h := ao_ifF h (by decide)
      replace h := ao_ifF h (by decide)
      replace h := ao_ifF h (by decide)
      replace h := ao_ifF h (by decide)
      replace h := ao_ifF h (by decide)
      replace h := ao_ifF h (by decide)
      replace h := ao_ifF h (by decide)
      replace h := ao_ifT h rfl
      obtain ⟨-, h⟩ := ao_some h
      obtain ⟨p91, hp91, h⟩ := ao_bind h
      replace h := ao_letD h rfl
      generalize p91.1 = v92 at h
      obtain ⟨p93, hp93, h⟩ := ao_bind h
      replace h := ao_letD h rfl
      generalize p93.1 = v94 at h
      obtain ⟨-, h⟩ := ao_some h
      obtain ⟨p95, hp95, h⟩ := ao_bind h
      exact ao_le_tr (ih.1 (e - 1) r0 p93.2 ρ _ hp95) (ao_csM h (fun _ h => ih.2.2.2.2.2.2.2.2.2.2.2.2.2.2.2.2.2.2.2.2.1 e r0 x1 x2 x3 v94 x5 v92 p95.2.1 p95.2.2 _ h) (fun _ h => by cases h; exact ao_le_rf _))
    · intro e r0 x1 x2 x3 x4 x5 x6 M ρ y h
      replace h := ao_ifF h (by decide)
      replace h := ao_ifF h (by decide)
      replace h := ao_ifF h (by decide)
      replace h := ao_ifF h (by decide)
      replace h := ao_ifF h (by decide)
      replace h := ao_ifF h (by decide)
      replace h := ao_ifF h (by decide)
      replace h := ao_ifF h (by decide)
      replace h := ao_ifF h (by decide)
      replace h := ao_ifF h (by decide)
      replace h := ao_ifF h (by decide)
      replace h := ao_ifF h (by decide)
      replace h := ao_ifF h (by decide)
      replace h := ao_ifF h (by decide)
      replace h := ao_ifF h (by decide)
      replace h := ao_ifF h (by decide)
      replace h := ao_ifF h (by decide)
      replace h := ao_ifF h (by decide)
      replace h := ao_ifF h (by decide)
      replace h := ao_ifF h (by decide)
      replace h := ao_ifT h rfl
      obtain ⟨-, h⟩ := ao_some h
      obtain ⟨p99, hp99, h⟩ := ao_bind h
      replace h := ao_letD h rfl
      generalize p99.1 = v100 at h
      obtain ⟨j101, hj101, h⟩ := ao_bind h
      obtain ⟨-, h⟩ := ao_some h
      obtain ⟨-, h⟩ := ao_some h
      replace h := ao_letD h rfl
      generalize (ao_u p99.2 j101 (((3 : Int32) * x6) + (1 : Int32)).toNatClampNeg (p99.2 r0 13)) = M104 at h
      exact ih.2.2.2.2.2.2.2.2.2.2.2.2.2.2.2.2.2.2.2.2.2.2.2.2.2.2.2.2.2.2.2.1 e r0 x1 x2 x3 M104 ρ _ h
    · intro e r0 x1 x2 x3 M ρ y h
      replace h := ao_ifF h (by decide)
      replace h := ao_ifF h (by decide)
      replace h := ao_ifF h (by decide)
      replace h := ao_ifF h (by decide)
      replace h := ao_ifF h (by decide)
      replace h := ao_ifF h (by decide)
      replace h := ao_ifF h (by decide)
      replace h := ao_ifF h (by decide)
      replace h := ao_ifF h (by decide)
      replace h := ao_ifF h (by decide)
      replace h := ao_ifF h (by decide)
      replace h := ao_ifF h (by decide)
      replace h := ao_ifF h (by decide)
      replace h := ao_ifF h (by decide)
      replace h := ao_ifF h (by decide)
      replace h := ao_ifF h (by decide)
      replace h := ao_ifF h (by decide)
      replace h := ao_ifF h (by decide)
      replace h := ao_ifF h (by decide)
      replace h := ao_ifF h (by decide)
      replace h := ao_ifF h (by decide)
      replace h := ao_ifT h rfl
      obtain ⟨-, h⟩ := ao_some h
      obtain ⟨p106, hp106, h⟩ := ao_bind h
      exact ao_le_tr (me_X12_expression n r0 M ρ hp106) (ao_csM h (fun _ h => ih.2.2.2.2.2.2.2.2.2.2.2.2.2.2.2.2.2.2.2.2.2.2.1 e r0 x1 x2 x3 p106.2.1 p106.2.2 _ h) (fun _ h => by cases h; exact ao_le_rf _))
    · intro e r0 x1 x2 x3 M ρ y h
      replace h := ao_ifF h (by decide)
      replace h := ao_ifF h (by decide)
      replace h := ao_ifF h (by decide)
      replace h := ao_ifF h (by decide)
      replace h := ao_ifF h (by decide)
      replace h := ao_ifF h (by decide)
      replace h := ao_ifF h (by decide)
      replace h := ao_ifF h (by decide)
      replace h := ao_ifF h (by decide)
      replace h := ao_ifF h (by decide)
      replace h := ao_ifF h (by decide)
      replace h := ao_ifF h (by decide)
      replace h := ao_ifF h (by decide)
      replace h := ao_ifF h (by decide)
      replace h := ao_ifF h (by decide)
      replace h := ao_ifF h (by decide)
      replace h := ao_ifF h (by decide)
      replace h := ao_ifF h (by decide)
      replace h := ao_ifF h (by decide)
      replace h := ao_ifF h (by decide)
      replace h := ao_ifF h (by decide)
      replace h := ao_ifF h (by decide)
      replace h := ao_ifT h rfl
      obtain ⟨-, h⟩ := ao_some h
      obtain ⟨p109, hp109, h⟩ := ao_bind h
      exact ao_le_tr (me_X12_need n r0 (59 : Int32) M ρ hp109) (ao_csM h (fun _ h => ih.2.2.2.2.2.2.2.2.2.2.2.2.2.2.2.2.2.2.2.2.2.2.2.1 e r0 x1 x2 x3 p109.2.1 p109.2.2 _ h) (fun _ h => by cases h; exact ao_le_rf _))
    · intro e r0 x1 x2 x3 M ρ y h
      replace h := ao_ifF h (by decide)
      replace h := ao_ifF h (by decide)
      replace h := ao_ifF h (by decide)
      replace h := ao_ifF h (by decide)
      replace h := ao_ifF h (by decide)
      replace h := ao_ifF h (by decide)
      replace h := ao_ifF h (by decide)
      replace h := ao_ifF h (by decide)
      replace h := ao_ifF h (by decide)
      replace h := ao_ifF h (by decide)
      replace h := ao_ifF h (by decide)
      replace h := ao_ifF h (by decide)
      replace h := ao_ifF h (by decide)
      replace h := ao_ifF h (by decide)
      replace h := ao_ifF h (by decide)
      replace h := ao_ifF h (by decide)
      replace h := ao_ifF h (by decide)
      replace h := ao_ifF h (by decide)
      replace h := ao_ifF h (by decide)
      replace h := ao_ifF h (by decide)
      replace h := ao_ifF h (by decide)
      replace h := ao_ifF h (by decide)
      replace h := ao_ifF h (by decide)
      replace h := ao_ifT h rfl
      rcases ao_ifC h with h | h
      · exact ih.2.2.2.2.2.2.2.2.2.2.2.2.2.2.2.2.2.2.2.2.2.2.2.2.1 e r0 x1 x2 x3 (14 : Int32) r0 M ρ _ h
      · exact ih.2.2.2.2.2.2.2.2.2.2.2.2.2.2.2.2.2.2.2.2.2.2.2.2.1 e r0 x1 x2 x3 (19 : Int32) r0 M ρ _ h
    · intro e r0 x1 x2 x3 s0 q1 M ρ y h
      replace h := ao_ifF h (by decide)
      replace h := ao_ifF h (by decide)
      replace h := ao_ifF h (by decide)
      replace h := ao_ifF h (by decide)
      replace h := ao_ifF h (by decide)
      replace h := ao_ifF h (by decide)
      replace h := ao_ifF h (by decide)
      replace h := ao_ifF h (by decide)
      replace h := ao_ifF h (by decide)
      replace h := ao_ifF h (by decide)
      replace h := ao_ifF h (by decide)
      replace h := ao_ifF h (by decide)
      replace h := ao_ifF h (by decide)
      replace h := ao_ifF h (by decide)
      replace h := ao_ifF h (by decide)
      replace h := ao_ifF h (by decide)
      replace h := ao_ifF h (by decide)
      replace h := ao_ifF h (by decide)
      replace h := ao_ifF h (by decide)
      replace h := ao_ifF h (by decide)
      replace h := ao_ifF h (by decide)
      replace h := ao_ifF h (by decide)
      replace h := ao_ifF h (by decide)
      replace h := ao_ifF h (by decide)
      replace h := ao_ifT h rfl
      obtain ⟨-, h⟩ := ao_some h
      obtain ⟨p113, hp113, h⟩ := ao_bind h
      replace h := ao_letD h rfl
      generalize p113.1 = v114 at h
      exact ih.2.2.2.2.2.2.2.2.2.2.2.2.2.2.2.2.2.2.2.2.2.2.2.2.2.2.2.2.2.2.2.1 e r0 x1 x2 x3 p113.2 ρ _ h
    · intro e r0 x1 x2 x3 M ρ y h
      replace h := ao_ifF h (by decide)
      replace h := ao_ifF h (by decide)
      replace h := ao_ifF h (by decide)
      replace h := ao_ifF h (by decide)
      replace h := ao_ifF h (by decide)
      replace h := ao_ifF h (by decide)
      replace h := ao_ifF h (by decide)
      replace h := ao_ifF h (by decide)
      replace h := ao_ifF h (by decide)
      replace h := ao_ifF h (by decide)
      replace h := ao_ifF h (by decide)
      replace h := ao_ifF h (by decide)
      replace h := ao_ifF h (by decide)
      replace h := ao_ifF h (by decide)
      replace h := ao_ifF h (by decide)
      replace h := ao_ifF h (by decide)
      replace h := ao_ifF h (by decide)
      replace h := ao_ifF h (by decide)
      replace h := ao_ifF h (by decide)
      replace h := ao_ifF h (by decide)
      replace h := ao_ifF h (by decide)
      replace h := ao_ifF h (by decide)
      replace h := ao_ifF h (by decide)
      replace h := ao_ifF h (by decide)
      replace h := ao_ifF h (by decide)
      replace h := ao_ifT h rfl
      obtain ⟨-, h⟩ := ao_some h
      obtain ⟨p116, hp116, h⟩ := ao_bind h
      exact ao_le_tr (me_X12_need n r0 (59 : Int32) M ρ hp116) (ao_csM h (fun _ h => ih.2.2.2.2.2.2.2.2.2.2.2.2.2.2.2.2.2.2.2.2.2.2.2.2.2.2.1 e r0 x1 x2 x3 p116.2.1 p116.2.2 _ h) (fun _ h => by cases h; exact ao_le_rf _))
    · intro e r0 x1 x2 x3 M ρ y h
      replace h := ao_ifF h (by decide)
      replace h := ao_ifF h (by decide)
      replace h := ao_ifF h (by decide)
      replace h := ao_ifF h (by decide)
      replace h := ao_ifF h (by decide)
      replace h := ao_ifF h (by decide)
      replace h := ao_ifF h (by decide)
      replace h := ao_ifF h (by decide)
      replace h := ao_ifF h (by decide)
      replace h := ao_ifF h (by decide)
      replace h := ao_ifF h (by decide)
      replace h := ao_ifF h (by decide)
      replace h := ao_ifF h (by decide)
      replace h := ao_ifF h (by decide)
      replace h := ao_ifF h (by decide)
      replace h := ao_ifF h (by decide)
      replace h := ao_ifF h (by decide)
      replace h := ao_ifF h (by decide)
      replace h := ao_ifF h (by decide)
      replace h := ao_ifF h (by decide)
      replace h := ao_ifF h (by decide)
      replace h := ao_ifF h (by decide)
      replace h := ao_ifF h (by decide)
      replace h := ao_ifF h (by decide)
      replace h := ao_ifF h (by decide)
      replace h := ao_ifF h (by decide)
      replace h := ao_ifT h rfl
      rcases ao_ifC h with h | h
      · exact ih.2.2.2.2.2.2.2.2.2.2.2.2.2.2.2.2.2.2.2.2.2.2.2.2.2.2.2.1 e r0 x1 x2 x3 (17 : Int32) r0 M ρ _ h
      · exact ih.2.2.2.2.2.2.2.2.2.2.2.2.2.2.2.2.2.2.2.2.2.2.2.2.2.2.2.1 e r0 x1 x2 x3 (18 : Int32) r0 M ρ _ h
    · intro e r0 x1 x2 x3 s0 q1 M ρ y h
      replace h := ao_ifF h (by decide)
      replace h := ao_ifF h (by decide)
      replace h := ao_ifF h (by decide)
      replace h := ao_ifF h (by decide)
      replace h := ao_ifF h (by decide)
      replace h := ao_ifF h (by decide)
      replace h := ao_ifF h (by decide)
      replace h := ao_ifF h (by decide)
      replace h := ao_ifF h (by decide)
      replace h := ao_ifF h (by decide)
      replace h := ao_ifF h (by decide)
      replace h := ao_ifF h (by decide)
      replace h := ao_ifF h (by decide)
      replace h := ao_ifF h (by decide)
      replace h := ao_ifF h (by decide)
      replace h := ao_ifF h (by decide)
      replace h := ao_ifF h (by decide)
      replace h := ao_ifF h (by decide)
      replace h := ao_ifF h (by decide)
      replace h := ao_ifF h (by decide)
      replace h := ao_ifF h (by decide)
      replace h := ao_ifF h (by decide)
      replace h := ao_ifF h (by decide)
      replace h := ao_ifF h (by decide)
      replace h := ao_ifF h (by decide)
      replace h := ao_ifF h (by decide)
      replace h := ao_ifF h (by decide)
      replace h := ao_ifT h rfl
      obtain ⟨-, h⟩ := ao_some h
      obtain ⟨p120, hp120, h⟩ := ao_bind h
      replace h := ao_letD h rfl
      generalize p120.1 = v121 at h
      exact ih.2.2.2.2.2.2.2.2.2.2.2.2.2.2.2.2.2.2.2.2.2.2.2.2.2.2.2.2.2.2.2.1 e r0 x1 x2 x3 p120.2 ρ _ h
    · intro e r0 x1 x2 x3 M ρ y h
      replace h := ao_ifF h (by decide)
      replace h := ao_ifF h (by decide)
      replace h := ao_ifF h (by decide)
      replace h := ao_ifF h (by decide)
      replace h := ao_ifF h (by decide)
      replace h := ao_ifF h (by decide)
      replace h := ao_ifF h (by decide)
      replace h := ao_ifF h (by decide)
      replace h := ao_ifF h (by decide)
      replace h := ao_ifF h (by decide)
      replace h := ao_ifF h (by decide)
      replace h := ao_ifF h (by decide)
      replace h := ao_ifF h (by decide)
      replace h := ao_ifF h (by decide)
      replace h := ao_ifF h (by decide)
      replace h := ao_ifF h (by decide)
      replace h := ao_ifF h (by decide)
      replace h := ao_ifF h (by decide)
      replace h := ao_ifF h (by decide)
      replace h := ao_ifF h (by decide)
      replace h := ao_ifF h (by decide)
      replace h := ao_ifF h (by decide)
      replace h := ao_ifF h (by decide)
      replace h := ao_ifF h (by decide)
      replace h := ao_ifF h (by decide)
      replace h := ao_ifF h (by decide)
      replace h := ao_ifF h (by decide)
      replace h := ao_ifF h (by decide)
      replace h := ao_ifT h rfl
      exact ih.2.2.2.2.2.2.2.2.2.2.2.2.2.2.2.2.2.2.2.2.2.2.2.2.2.2.2.2.2.2.2.1 e r0 x1 x2 x3 M ρ _ h
    · intro e r0 x1 x2 x3 M ρ y h
      replace h := ao_ifF h (by decide)
      replace h := ao_ifF h (by decide)
      replace h := ao_ifF h (by decide)
      replace h := ao_ifF h (by decide)
      replace h := ao_ifF h (by decide)
      replace h := ao_ifF h (by decide)
      replace h := ao_ifF h (by decide)
      replace h := ao_ifF h (by decide)
      replace h := ao_ifF h (by decide)
      replace h := ao_ifF h (by decide)
      replace h := ao_ifF h (by decide)
      replace h := ao_ifF h (by decide)
      replace h := ao_ifF h (by decide)
      replace h := ao_ifF h (by decide)
      replace h := ao_ifF h (by decide)
      replace h := ao_ifF h (by decide)
      replace h := ao_ifF h (by decide)
      replace h := ao_ifF h (by decide)
      replace h := ao_ifF h (by decide)
      replace h := ao_ifF h (by decide)
      replace h := ao_ifF h (by decide)
      replace h := ao_ifF h (by decide)
      replace h := ao_ifF h (by decide)
      replace h := ao_ifF h (by decide)
      replace h := ao_ifF h (by decide)
      replace h := ao_ifF h (by decide)
      replace h := ao_ifF h (by decide)
      replace h := ao_ifF h (by decide)
      replace h := ao_ifF h (by decide)
      replace h := ao_ifT h rfl
      rcases ao_ifC h with h | h
      · exact ih.2.2.2.2.2.2.2.2.2.2.2.2.2.2.2.2.2.2.2.2.2.2.2.2.2.2.2.2.2.2.1 e r0 x1 x2 x3 (1 : Int32) r0 M ρ _ h
      · exact ih.2.2.2.2.2.2.2.2.2.2.2.2.2.2.2.2.2.2.2.2.2.2.2.2.2.2.2.2.2.2.1 e r0 x1 x2 x3 (0 : Int32) r0 M ρ _ h
    · intro e r0 x1 x2 x3 s0 q1 M ρ y h
      replace h := ao_ifF h (by decide)
      replace h := ao_ifF h (by decide)
      replace h := ao_ifF h (by decide)
      replace h := ao_ifF h (by decide)
      replace h := ao_ifF h (by decide)
      replace h := ao_ifF h (by decide)
      replace h := ao_ifF h (by decide)
      replace h := ao_ifF h (by decide)
      replace h := ao_ifF h (by decide)
      replace h := ao_ifF h (by decide)
      replace h := ao_ifF h (by decide)
      replace h := ao_ifF h (by decide)
      replace h := ao_ifF h (by decide)
      replace h := ao_ifF h (by decide)
      replace h := ao_ifF h (by decide)
      replace h := ao_ifF h (by decide)
      replace h := ao_ifF h (by decide)
      replace h := ao_ifF h (by decide)
      replace h := ao_ifF h (by decide)
      replace h := ao_ifF h (by decide)
      replace h := ao_ifF h (by decide)
      replace h := ao_ifF h (by decide)
      replace h := ao_ifF h (by decide)
      replace h := ao_ifF h (by decide)
      replace h := ao_ifF h (by decide)
      replace h := ao_ifF h (by decide)
      replace h := ao_ifF h (by decide)
      replace h := ao_ifF h (by decide)
      replace h := ao_ifF h (by decide)
      replace h := ao_ifF h (by decide)
      replace h := ao_ifT h rfl
      obtain ⟨-, h⟩ := ao_some h
      obtain ⟨-, h⟩ := ao_some h
      obtain ⟨p124, hp124, h⟩ := ao_bind h
      exact ao_le_tr (ih.2.2.2.2.2.2.2.2.2.2.2.2.2.2.2.2.2.2.2.2.2.2.2.2.2.2.2.2.2.2.2.2.2.2.2.1 (e - 1) q1 s0 M ρ _ hp124) (ao_csM h (fun _ h => ih.2.2.2.2.2.2.2.2.2.2.2.2.2.2.2.2.2.2.2.2.2.2.2.2.2.2.2.2.2.2.2.1 e r0 x1 x2 x3 p124.2.1 p124.2.2 _ h) (fun _ h => by cases h; exact ao_le_rf _))
    · intro e r0 x1 x2 x3 M ρ y h
      replace h := ao_ifF h (by decide)
      replace h := ao_ifF h (by decide)
      replace h := ao_ifF h (by decide)
      replace h := ao_ifF h (by decide)
      replace h := ao_ifF h (by decide)
      replace h := ao_ifF h (by decide)
      replace h := ao_ifF h (by decide)
      replace h := ao_ifF h (by decide)
      replace h := ao_ifF h (by decide)
      replace h := ao_ifF h (by decide)
      replace h := ao_ifF h (by decide)
      replace h := ao_ifF h (by decide)
      replace h := ao_ifF h (by decide)
      replace h := ao_ifF h (by decide)
      replace h := ao_ifF h (by decide)
      replace h := ao_ifF h (by decide)
      replace h := ao_ifF h (by decide)
      replace h := ao_ifF h (by decide)
      replace h := ao_ifF h (by decide)
      replace h := ao_ifF h (by decide)
      replace h := ao_ifF h (by decide)
      replace h := ao_ifF h (by decide)
      replace h := ao_ifF h (by decide)
      replace h := ao_ifF h (by decide)
      replace h := ao_ifF h (by decide)
      replace h := ao_ifF h (by decide)
      replace h := ao_ifF h (by decide)
      replace h := ao_ifF h (by decide)
      replace h := ao_ifF h (by decide)
      replace h := ao_ifF h (by decide)
      replace h := ao_ifF h (by decide)
      replace h := ao_ifT h rfl
      cases h
      exact ao_le_rf _
    · intro e r0 M ρ y h
      replace h := ao_ifF h (by decide)
      replace h := ao_ifF h (by decide)
      replace h := ao_ifF h (by decide)
      replace h := ao_ifF h (by decide)
      replace h := ao_ifF h (by decide)
      replace h := ao_ifF h (by decide)
      replace h := ao_ifF h (by decide)
      replace h := ao_ifF h (by decide)
      replace h := ao_ifF h (by decide)
      replace h := ao_ifF h (by decide)
      replace h := ao_ifF h (by decide)
      replace h := ao_ifF h (by decide)
      replace h := ao_ifF h (by decide)
      replace h := ao_ifF h (by decide)
      replace h := ao_ifF h (by decide)
      replace h := ao_ifF h (by decide)
      replace h := ao_ifF h (by decide)
      replace h := ao_ifF h (by decide)
      replace h := ao_ifF h (by decide)
      replace h := ao_ifF h (by decide)
      replace h := ao_ifF h (by decide)
      replace h := ao_ifF h (by decide)
      replace h := ao_ifF h (by decide)
      replace h := ao_ifF h (by decide)
      replace h := ao_ifF h (by decide)
      replace h := ao_ifF h (by decide)
      replace h := ao_ifF h (by decide)
      replace h := ao_ifF h (by decide)
      replace h := ao_ifF h (by decide)
      replace h := ao_ifF h (by decide)
      replace h := ao_ifF h (by decide)
      replace h := ao_ifF h (by decide)
      replace h := ao_ifT h rfl
      obtain ⟨-, h⟩ := ao_some h
      obtain ⟨p2, hp2, h⟩ := ao_bind h
      replace h := ao_letD h rfl
      generalize p2.1 = v3 at h
      obtain ⟨-, h⟩ := ao_some h
      obtain ⟨p4, hp4, h⟩ := ao_bind h
      exact ao_le_tr (ih.1 (e - 1) r0 p2.2 ρ _ hp4) (ao_csM h (fun _ h => ih.2.2.2.2.2.2.2.2.2.2.2.2.2.2.2.2.2.2.2.2.2.2.2.2.2.2.2.2.2.2.2.2.2.1 e r0 v3 p4.2.1 p4.2.2 _ h) (fun _ h => by cases h; exact ao_le_rf _))
    · intro e r0 x1 M ρ y h
      replace h := ao_ifF h (by decide)
      replace h := ao_ifF h (by decide)
      replace h := ao_ifF h (by decide)
      replace h := ao_ifF h (by decide)
      replace h := ao_ifF h (by decide)
      replace h := ao_ifF h (by decide)
      replace h := ao_ifF h (by decide)
      replace h := ao_ifF h (by decide)
      replace h := ao_ifF h (by decide)
      replace h := ao_ifF h (by decide)
      replace h := ao_ifF h (by decide)
      replace h := ao_ifF h (by decide)
      replace h := ao_ifF h (by decide)
      replace h := ao_ifF h (by decide)
      replace h := ao_ifF h (by decide)
      replace h := ao_ifF h (by decide)
      replace h := ao_ifF h (by decide)
      replace h := ao_ifF h (by decide)
      replace h := ao_ifF h (by decide)
      replace h := ao_ifF h (by decide)
      replace h := ao_ifF h (by decide)
      replace h := ao_ifF h (by decide)
      replace h := ao_ifF h (by decide)
      replace h := ao_ifF h (by decide)
      replace h := ao_ifF h (by decide)
      replace h := ao_ifF h (by decide)
      replace h := ao_ifF h (by decide)
      replace h := ao_ifF h (by decide)
      replace h := ao_ifF h (by decide)
      replace h := ao_ifF h (by decide)
      replace h := ao_ifF h (by decide)
      replace h := ao_ifF h (by decide)
      replace h := ao_ifF h (by decide)
      replace h := ao_ifT h rfl
      obtain ⟨-, h⟩ := ao_some h
      obtain ⟨p8, hp8, h⟩ := ao_bind h
      replace h := ao_letD h rfl
      generalize p8.1 = v9 at h
      obtain ⟨p10, hp10, h⟩ := ao_bind h
      replace h := ao_letD h rfl
      generalize p10.1 = v11 at h
      obtain ⟨p12, hp12, h⟩ := ao_bind h
      rcases ao_ifC h with h | h
      · obtain ⟨p28, hp28, h⟩ := ao_bind h
        obtain ⟨-, h⟩ := ao_some h
        cases h
        exact ao_le_rf _
      · obtain ⟨p14, hp14, h⟩ := ao_bind h
        rcases ao_ifC h with h | h
        · obtain ⟨j16, hj16, h⟩ := ao_bind h
          obtain ⟨-, h⟩ := ao_some h
          obtain ⟨-, h⟩ := ao_some h
          replace h := ao_letD h rfl
          generalize (ao_u p14 j16 (((3 : Int32) * x1) + (2 : Int32)).toNatClampNeg (p14 r0 10)) = M19 at h
          obtain ⟨p20, hp20, h⟩ := ao_bind h
          obtain ⟨-, h⟩ := ao_some h
          replace h := ao_letD h rfl
          generalize (ao_u p20 j16 (((3 : Int32) * x1) + (1 : Int32)).toNatClampNeg (p20 r0 13)) = M22 at h
          obtain ⟨-, h⟩ := ao_some h
          obtain ⟨p23, hp23, h⟩ := ao_bind h
          exact ao_le_tr (ih.1 (e - 1) r0 M22 ρ _ hp23) (ao_csM h (fun _ h => ih.2.2.2.2.2.2.2.2.2.2.2.2.2.2.2.2.2.2.2.2.2.2.2.2.2.2.2.2.2.2.2.2.2.2.1 e r0 x1 v9 v11 p23.2.1 p23.2.2 _ h) (fun _ h => by cases h; exact ao_le_rf _))
        · obtain ⟨p26, hp26, h⟩ := ao_bind h
          obtain ⟨-, h⟩ := ao_some h
          cases h
          exact ao_le_rf _
    · intro e r0 x1 x2 x3 M ρ y h
      replace h := ao_ifF h (by decide)
      replace h := ao_ifF h (by decide)
      replace h := ao_ifF h (by decide)
      replace h := ao_ifF h (by decide)
      replace h := ao_ifF h (by decide)
      replace h := ao_ifF h (by decide)
      replace h := ao_ifF h (by decide)
      replace h := ao_ifF h (by decide)
      replace h := ao_ifF h (by decide)
      replace h := ao_ifF h (by decide)
      replace h := ao_ifF h (by decide)
      replace h := ao_ifF h (by decide)
      replace h := ao_ifF h (by decide)
      replace h := ao_ifF h (by decide)
      replace h := ao_ifF h (by decide)
      replace h := ao_ifF h (by decide)
      replace h := ao_ifF h (by decide)
      replace h := ao_ifF h (by decide)
      replace h := ao_ifF h (by decide)
      replace h := ao_ifF h (by decide)
      replace h := ao_ifF h (by decide)
      replace h := ao_ifF h (by decide)
      replace h := ao_ifF h (by decide)
      replace h := ao_ifF h (by decide)
      replace h := ao_ifF h (by decide)
      replace h := ao_ifF h (by decide)
      replace h := ao_ifF h (by decide)
      replace h := ao_ifF h (by decide)
      replace h := ao_ifF h (by decide)
      replace h := ao_ifF h (by decide)
      replace h := ao_ifF h (by decide)
      replace h := ao_ifF h (by decide)
      replace h := ao_ifF h (by decide)
      replace h := ao_ifF h (by decide)
      replace h := ao_ifT h rfl
      obtain ⟨-, h⟩ := ao_some h
      obtain ⟨j31, hj31, h⟩ := ao_bind h
      obtain ⟨-, h⟩ := ao_some h
      obtain ⟨-, h⟩ := ao_some h
      replace h := ao_letD h rfl
      generalize (ao_u M j31 (((3 : Int32) * x3) + (1 : Int32)).toNatClampNeg (M r0 13)) = M34 at h
      cases h
      exact ao_le_rf _
    · intro e r0 x1 M ρ y h
      replace h := ao_ifF h (by decide)
      replace h := ao_ifF h (by decide)
      replace h := ao_ifF h (by decide)
      replace h := ao_ifF h (by decide)
      replace h := ao_ifF h (by decide)
      replace h := ao_ifF h (by decide)
      replace h := ao_ifF h (by decide)
      replace h := ao_ifF h (by decide)
      replace h := ao_ifF h (by decide)
      replace h := ao_ifF h (by decide)
      replace h := ao_ifF h (by decide)
      replace h := ao_ifF h (by decide)
      replace h := ao_ifF h (by decide)
      replace h := ao_ifF h (by decide)
      replace h := ao_ifF h (by decide)
      replace h := ao_ifF h (by decide)
      replace h := ao_ifF h (by decide)
      replace h := ao_ifF h (by decide)
      replace h := ao_ifF h (by decide)
      replace h := ao_ifF h (by decide)
      replace h := ao_ifF h (by decide)
      replace h := ao_ifF h (by decide)
      replace h := ao_ifF h (by decide)
      replace h := ao_ifF h (by decide)
      replace h := ao_ifF h (by decide)
      replace h := ao_ifF h (by decide)
      replace h := ao_ifF h (by decide)
      replace h := ao_ifF h (by decide)
      replace h := ao_ifF h (by decide)
      replace h := ao_ifF h (by decide)
      replace h := ao_ifF h (by decide)
      replace h := ao_ifF h (by decide)
      replace h := ao_ifF h (by decide)
      replace h := ao_ifF h (by decide)
      replace h := ao_ifF h (by decide)
      replace h := ao_ifT h rfl
      obtain ⟨-, h⟩ := ao_some h
      replace h := ao_letD h rfl
      generalize (ao_u M r0 16 ((M r0 16) + (1 : Int32))) = M2 at h
      obtain ⟨p3, hp3, h⟩ := ao_bind h
      replace h := ao_letD h rfl
      generalize p3.1 = v4 at h
      obtain ⟨-, h⟩ := ao_some h
      obtain ⟨p5, hp5, h⟩ := ao_bind h
      exact ao_le_tr (ih.1 (e - 1) r0 p3.2 ρ _ hp5) (ao_csM h (fun _ h => ih.2.2.2.2.2.2.2.2.2.2.2.2.2.2.2.2.2.2.2.2.2.2.2.2.2.2.2.2.2.2.2.2.2.2.2.2.1 e r0 x1 v4 p5.2.1 p5.2.2 _ h) (fun _ h => by cases h; exact ao_le_rf _))
    · intro e r0 x1 x2 M ρ y h
      replace h := ao_ifF h (by decide)
      replace h := ao_ifF h (by decide)
      replace h := ao_ifF h (by decide)
      replace h := ao_ifF h (by decide)
      replace h := ao_ifF h (by decide)
      replace h := ao_ifF h (by decide)
      replace h := ao_ifF h (by decide)
      replace h := ao_ifF h (by decide)
      replace h := ao_ifF h (by decide)
      replace h := ao_ifF h (by decide)
      replace h := ao_ifF h (by decide)
      replace h := ao_ifF h (by decide)
      replace h := ao_ifF h (by decide)
      replace h := ao_ifF h (by decide)
      replace h := ao_ifF h (by decide)
      replace h := ao_ifF h (by decide)
      replace h := ao_ifF h (by decide)
      replace h := ao_ifF h (by decide)
      replace h := ao_ifF h (by decide)
      replace h := ao_ifF h (by decide)
      replace h := ao_ifF h (by decide)
      replace h := ao_ifF h (by decide)
      replace h := ao_ifF h (by decide)
      replace h := ao_ifF h (by decide)
      replace h := ao_ifF h (by decide)
      replace h := ao_ifF h (by decide)
      replace h := ao_ifF h (by decide)
      replace h := ao_ifF h (by decide)
      replace h := ao_ifF h (by decide)
      replace h := ao_ifF h (by decide)
      replace h := ao_ifF h (by decide)
      replace h := ao_ifF h (by decide)
      replace h := ao_ifF h (by decide)
      replace h := ao_ifF h (by decide)
      replace h := ao_ifF h (by decide)
      replace h := ao_ifF h (by decide)
      replace h := ao_ifT h rfl
      obtain ⟨-, h⟩ := ao_some h
      obtain ⟨p9, hp9, h⟩ := ao_bind h
      replace h := ao_letD h rfl
      generalize p9.1 = v10 at h
      obtain ⟨p11, hp11, h⟩ := ao_bind h
      rcases ao_ifC h with h | h
      · exact ih.2.2.2.2.2.2.2.2.2.2.2.2.2.2.2.2.2.2.2.2.2.2.2.2.2.2.2.2.2.2.2.2.2.2.2.2.2.2.1 e r0 x1 x2 v10 (-1 : Int32) p11.2 ρ _ h
      · obtain ⟨p13, hp13, h⟩ := ao_bind h
        obtain ⟨p14, hp14, h⟩ := ao_bind h
        replace h := ao_letD h rfl
        generalize p14.1 = v15 at h
        replace h := ao_letD h rfl
        generalize (p14.2 r0 13) = v16 at h
        obtain ⟨-, h⟩ := ao_some h
        obtain ⟨p17, hp17, h⟩ := ao_bind h
        exact ao_le_tr (ih.1 (e - 1) r0 p14.2 ρ _ hp17) (ao_csM h (fun _ h => ih.2.2.2.2.2.2.2.2.2.2.2.2.2.2.2.2.2.2.2.2.2.2.2.2.2.2.2.2.2.2.2.2.2.2.2.2.2.1 e r0 x1 x2 v10 v16 v15 p17.2.1 p17.2.2 _ h) (fun _ h => by cases h; exact ao_le_rf _))
    · intro e r0 x1 x2 x3 x4 x5 M ρ y h
      replace h := ao_ifF h (by decide)
      replace h := ao_ifF h (by decide)
      replace h := ao_ifF h (by decide)
      replace h := ao_ifF h (by decide)
      replace h := ao_ifF h (by decide)
      replace h := ao_ifF h (by decide)
      replace h := ao_ifF h (by decide)
      replace h := ao_ifF h (by decide)
      replace h := ao_ifF h (by decide)
      replace h := ao_ifF h (by decide)
      replace h := ao_ifF h (by decide)
      replace h := ao_ifF h (by decide)
      replace h := ao_ifF h (by decide)
      replace h := ao_ifF h (by decide)
      replace h := ao_ifF h (by decide)
      replace h := ao_ifF h (by decide)
      replace h := ao_ifF h (by decide)
      replace h := ao_ifF h (by decide)
      replace h := ao_ifF h (by decide)
      replace h := ao_ifF h (by decide)
      replace h := ao_ifF h (by decide)
      replace h := ao_ifF h (by decide)
      replace h := ao_ifF h (by decide)
      replace h := ao_ifF h (by decide)
      replace h := ao_ifF h (by decide)
      replace h := ao_ifF h (by decide)
      replace h := ao_ifF h (by decide)
      replace h := ao_ifF h (by decide)
      replace h := ao_ifF h (by decide)
      replace h := ao_ifF h (by decide)
      replace h := ao_ifF h (by decide)
      replace h := ao_ifF h (by decide)
      replace h := ao_ifF h (by decide)
      replace h := ao_ifF h (by decide)
      replace h := ao_ifF h (by decide)
      replace h := ao_ifF h (by decide)
      replace h := ao_ifF h (by decide)
      replace h := ao_ifT h rfl
      obtain ⟨-, h⟩ := ao_some h
      obtain ⟨p21, hp21, h⟩ := ao_bind h
      replace h := ao_letD h rfl
      generalize p21.1 = v22 at h
      obtain ⟨j23, hj23, h⟩ := ao_bind h
      obtain ⟨-, h⟩ := ao_some h
      obtain ⟨-, h⟩ := ao_some h
      replace h := ao_letD h rfl
      generalize (ao_u p21.2 j23 (((3 : Int32) * x5) + (1 : Int32)).toNatClampNeg (p21.2 r0 13)) = M26 at h
      exact ih.2.2.2.2.2.2.2.2.2.2.2.2.2.2.2.2.2.2.2.2.2.2.2.2.2.2.2.2.2.2.2.2.2.2.2.2.2.2.1 e r0 x1 x2 v22 x4 M26 ρ _ h
    · intro e r0 x1 x2 x3 x4 M ρ y h
      replace h := ao_ifF h (by decide)
      replace h := ao_ifF h (by decide)
      replace h := ao_ifF h (by decide)
      replace h := ao_ifF h (by decide)
      replace h := ao_ifF h (by decide)
      replace h := ao_ifF h (by decide)
      replace h := ao_ifF h (by decide)
      replace h := ao_ifF h (by decide)
      replace h := ao_ifF h (by decide)
      replace h := ao_ifF h (by decide)
      replace h := ao_ifF h (by decide)
      replace h := ao_ifF h (by decide)
      replace h := ao_ifF h (by decide)
      replace h := ao_ifF h (by decide)
      replace h := ao_ifF h (by decide)
      replace h := ao_ifF h (by decide)
      replace h := ao_ifF h (by decide)
      replace h := ao_ifF h (by decide)
      replace h := ao_ifF h (by decide)
      replace h := ao_ifF h (by decide)
      replace h := ao_ifF h (by decide)
      replace h := ao_ifF h (by decide)
      replace h := ao_ifF h (by decide)
      replace h := ao_ifF h (by decide)
      replace h := ao_ifF h (by decide)
      replace h := ao_ifF h (by decide)
      replace h := ao_ifF h (by decide)
      replace h := ao_ifF h (by decide)
      replace h := ao_ifF h (by decide)
      replace h := ao_ifF h (by decide)
      replace h := ao_ifF h (by decide)
      replace h := ao_ifF h (by decide)
      replace h := ao_ifF h (by decide)
      replace h := ao_ifF h (by decide)
      replace h := ao_ifF h (by decide)
      replace h := ao_ifF h (by decide)
      replace h := ao_ifF h (by decide)
      replace h := ao_ifF h (by decide)
      replace h := ao_ifT h rfl
      obtain ⟨-, h⟩ := ao_some h
      obtain ⟨j28, hj28, h⟩ := ao_bind h
      rcases ao_ifC h with h | h
      · exact ih.2.2.2.2.2.2.2.2.2.2.2.2.2.2.2.2.2.2.2.2.2.2.2.2.2.2.2.2.2.2.2.2.2.2.2.2.2.2.2 e r0 x1 x2 x3 x4 (0 : Int32) ((2 : Int32) * (x4 + (1 : Int32))) (((3 : Int32) * x2) + (1 : Int32)) j28 M ρ _ h
      · exact ih.2.2.2.2.2.2.2.2.2.2.2.2.2.2.2.2.2.2.2.2.2.2.2.2.2.2.2.2.2.2.2.2.2.2.2.2.2.2.2 e r0 x1 x2 x3 x4 (1 : Int32) ((2 : Int32) * (x4 + (1 : Int32))) (((3 : Int32) * x2) + (1 : Int32)) j28 M ρ _ h
    · intro e r0 x1 x2 x3 x4 s0 s1 s2 q3 M ρ y h
      replace h := ao_ifF h (by decide)
      replace h := ao_ifF h (by decide)
      replace h := ao_ifF h (by decide)
      replace h := ao_ifF h (by decide)
      replace h := ao_ifF h (by decide)
      replace h := ao_ifF h (by decide)
      replace h := ao_ifF h (by decide)
      replace h := ao_ifF h (by decide)
      replace h := ao_ifF h (by decide)
      replace h := ao_ifF h (by decide)
      replace h := ao_ifF h (by decide)
      replace h := ao_ifF h (by decide)
      replace h := ao_ifF h (by decide)
      replace h := ao_ifF h (by decide)
      replace h := ao_ifF h (by decide)
      replace h := ao_ifF h (by decide)
      replace h := ao_ifF h (by decide)
      replace h := ao_ifF h (by decide)
      replace h := ao_ifF h (by decide)
      replace h := ao_ifF h (by decide)
      replace h := ao_ifF h (by decide)
      replace h := ao_ifF h (by decide)
      replace h := ao_ifF h (by decide)
      replace h := ao_ifF h (by decide)
      replace h := ao_ifF h (by decide)
      replace h := ao_ifF h (by decide)
      replace h := ao_ifF h (by decide)
      replace h := ao_ifF h (by decide)
      replace h := ao_ifF h (by decide)
      replace h := ao_ifF h (by decide)
      replace h := ao_ifF h (by decide)
      replace h := ao_ifF h (by decide)
      replace h := ao_ifF h (by decide)
      replace h := ao_ifF h (by decide)
      replace h := ao_ifF h (by decide)
      replace h := ao_ifF h (by decide)
      replace h := ao_ifF h (by decide)
      replace h := ao_ifF h (by decide)
      replace h := ao_ifF h (by decide)
      replace h := ao_ifT h rfl
      obtain ⟨-, h⟩ := ao_some h
      obtain ⟨-, h⟩ := ao_some h
      replace h := ao_letD h rfl
      generalize (ao_u M q3 s2.toNatClampNeg (s1 + s0)) = M32 at h
      obtain ⟨-, h⟩ := ao_some h
      obtain ⟨j34, hj34, h⟩ := ao_bind h
      obtain ⟨-, h⟩ := ao_some h
      obtain ⟨-, h⟩ := ao_some h
      replace h := ao_letD h rfl
      generalize (ao_u M32 j34 (((3 : Int32) * x2) + (2 : Int32)).toNatClampNeg (M32 r0 13)) = M37 at h
      replace h := ao_letD h rfl
      generalize (ao_u M37 r0 16 ((M37 r0 16) - (1 : Int32))) = M38 at h
      cases h
      exact ao_le_rf _
set_option maxRecDepth 100000 in
set_option maxHeartbeats 4000000 in
theorem wGB {Γ : ao_C} : ∀ n : Nat, (∀ (e d MC MS : Nat) (hd : 74 + e ≤ d) (r0 : Nat) (M : ao_M) (ρ : ao_H) (y : (Int32 ⊕ String) × ao_S), fGB n e 0 r0 0 0 0 0 0 0 0 0 0 0 0 M ρ = some y → ao_W Γ uX12_block (ao_rm d MC MS) (ao_Q Γ (ao_ZV y) MC MS) (ao_dc ρ y.2.2) (ao_ds ρ y.2.2) 0 [some (.ref (Γ.2.2.2 + r0))] [] (M, ρ)) ∧ (∀ (e d MC MS : Nat) (hd : 74 + e ≤ d) (r0 : Nat) (M : ao_M) (ρ : ao_H) (y : (Int32 ⊕ String) × ao_S), fGB n e 22 r0 0 0 0 0 0 0 0 0 0 0 0 M ρ = some y → ao_W Γ uX12_block (ao_rm d MC MS) (ao_Q Γ (ao_ZV y) MC MS) (ao_dc ρ y.2.2) (ao_ds ρ y.2.2) 22 [some (.ref (Γ.2.2.2 + r0))] [] (M, ρ)) ∧ (∀ (e d MC MS : Nat) (hd : 74 + e ≤ d) (r0 : Nat) (M : ao_M) (ρ : ao_H) (y : (Int32 ⊕ String) × ao_S), fGB n e 26 r0 0 0 0 0 0 0 0 0 0 0 0 M ρ = some y → ao_W Γ uX12_block (ao_rm d MC MS) (ao_Q Γ (ao_ZV y) MC MS) (ao_dc ρ y.2.2) (ao_ds ρ y.2.2) 26 [some (.ref (Γ.2.2.2 + r0))] [] (M, ρ)) ∧ (∀ (e d MC MS : Nat) (hd : 74 + e ≤ d) (r0 : Nat) (M : ao_M) (ρ : ao_H) (y : (Int32 ⊕ String) × ao_S), fGB n e 39 r0 0 0 0 0 0 0 0 0 0 0 0 M ρ = some y → ao_W Γ uX12_block (ao_rm d MC MS) (ao_Q Γ (ao_ZV y) MC MS) (ao_dc ρ y.2.2) (ao_ds ρ y.2.2) 39 [some (.ref (Γ.2.2.2 + r0))] [] (M, ρ)) ∧ (∀ (e d MC MS : Nat) (hd : 74 + e ≤ d) (r0 : Nat) (M : ao_M) (ρ : ao_H) (y : (Int32 ⊕ String) × ao_S), fGB n e 1000 r0 0 0 0 0 0 0 0 0 0 0 0 M ρ = some y → ao_W Γ uX12_statement (ao_rm d MC MS) (ao_Q Γ (ao_ZV y) MC MS) (ao_dc ρ y.2.2) (ao_ds ρ y.2.2) 0 [some (.ref (Γ.2.2.2 + r0)), none, none, none, none, none, none] [] (M, ρ)) ∧ (∀ (e d MC MS : Nat) (hd : 74 + e ≤ d) (r0 : Nat) (M : ao_M) (ρ : ao_H) (y : (Int32 ⊕ String) × ao_S), fGB n e 1014 r0 0 0 0 0 0 0 0 0 0 0 0 M ρ = some y → ao_W Γ uX12_statement (ao_rm d MC MS) (ao_Q Γ (ao_ZV y) MC MS) (ao_dc ρ y.2.2) (ao_ds ρ y.2.2) 14 [some (.ref (Γ.2.2.2 + r0)), none, none, none, none, none, none] [] (M, ρ)) ∧ (∀ (e d MC MS : Nat) (hd : 74 + e ≤ d) (r0 : Nat) (x1 : Int32) (x2 : Int32) (M : ao_M) (ρ : ao_H) (y : (Int32 ⊕ String) × ao_S), fGB n e 1065 r0 x1 x2 0 0 0 0 0 0 0 0 0 M ρ = some y → ao_W Γ uX12_statement (ao_rm d MC MS) (ao_Q Γ (ao_ZV y) MC MS) (ao_dc ρ y.2.2) (ao_ds ρ y.2.2) 65 [some (.ref (Γ.2.2.2 + r0)), some (.int x1), some (.int x2), none, none, none, none] [] (M, ρ)) ∧ (∀ (e d MC MS : Nat) (hd : 74 + e ≤ d) (r0 : Nat) (x1 : Int32) (x2 : Int32) (M : ao_M) (ρ : ao_H) (y : (Int32 ⊕ String) × ao_S), fGB n e 1069 r0 x1 x2 0 0 0 0 0 0 0 0 0 M ρ = some y → ao_W Γ uX12_statement (ao_rm d MC MS) (ao_Q Γ (ao_ZV y) MC MS) (ao_dc ρ y.2.2) (ao_ds ρ y.2.2) 69 [some (.ref (Γ.2.2.2 + r0)), some (.int x1), some (.int x2), none, none, none, none] [] (M, ρ)) ∧ (∀ (e d MC MS : Nat) (hd : 74 + e ≤ d) (r0 : Nat) (x1 : Int32) (x2 : Int32) (s0 : Int32) (M : ao_M) (ρ : ao_H) (y : (Int32 ⊕ String) × ao_S), fGB n e 1070 r0 x1 x2 0 0 0 0 s0 0 0 0 0 M ρ = some y → ao_W Γ uX12_statement (ao_rm d MC MS) (ao_Q Γ (ao_ZV y) MC MS) (ao_dc ρ y.2.2) (ao_ds ρ y.2.2) 70 [some (.ref (Γ.2.2.2 + r0)), some (.int x1), some (.int x2), none, none, none, none] [.int s0] (M, ρ)) ∧ (∀ (e d MC MS : Nat) (hd : 74 + e ≤ d) (r0 : Nat) (x1 : Int32) (x2 : Int32) (x3 : Int32) (M : ao_M) (ρ : ao_H) (y : (Int32 ⊕ String) × ao_S), fGB n e 1092 r0 x1 x2 x3 0 0 0 0 0 0 0 0 M ρ = some y → ao_W Γ uX12_statement (ao_rm d MC MS) (ao_Q Γ (ao_ZV y) MC MS) (ao_dc ρ y.2.2) (ao_ds ρ y.2.2) 92 [some (.ref (Γ.2.2.2 + r0)), some (.int x1), some (.int x2), some (.int x3), none, none, none] [] (M, ρ)) ∧ (∀ (e d MC MS : Nat) (hd : 74 + e ≤ d) (r0 : Nat) (x1 : Int32) (x2 : Int32) (x3 : Int32) (M : ao_M) (ρ : ao_H) (y : (Int32 ⊕ String) × ao_S), fGB n e 1099 r0 x1 x2 x3 0 0 0 0 0 0 0 0 M ρ = some y → ao_W Γ uX12_statement (ao_rm d MC MS) (ao_Q Γ (ao_ZV y) MC MS) (ao_dc ρ y.2.2) (ao_ds ρ y.2.2) 99 [some (.ref (Γ.2.2.2 + r0)), some (.int x1), some (.int x2), some (.int x3), none, none, none] [] (M, ρ)) ∧ (∀ (e d MC MS : Nat) (hd : 74 + e ≤ d) (r0 : Nat) (x1 : Int32) (x2 : Int32) (x3 : Int32) (M : ao_M) (ρ : ao_H) (y : (Int32 ⊕ String) × ao_S), fGB n e 1108 r0 x1 x2 x3 0 0 0 0 0 0 0 0 M ρ = some y → ao_W Γ uX12_statement (ao_rm d MC MS) (ao_Q Γ (ao_ZV y) MC MS) (ao_dc ρ y.2.2) (ao_ds ρ y.2.2) 108 [some (.ref (Γ.2.2.2 + r0)), some (.int x1), some (.int x2), some (.int x3), none, none, none] [] (M, ρ)) ∧ (∀ (e d MC MS : Nat) (hd : 74 + e ≤ d) (r0 : Nat) (x1 : Int32) (x2 : Int32) (x3 : Int32) (M : ao_M) (ρ : ao_H) (y : (Int32 ⊕ String) × ao_S), fGB n e 1152 r0 x1 x2 x3 0 0 0 0 0 0 0 0 M ρ = some y → ao_W Γ uX12_statement (ao_rm d MC MS) (ao_Q Γ (ao_ZV y) MC MS) (ao_dc ρ y.2.2) (ao_ds ρ y.2.2) 152 [some (.ref (Γ.2.2.2 + r0)), some (.int x1), some (.int x2), some (.int x3), none, none, none] [] (M, ρ)) ∧ (∀ (e d MC MS : Nat) (hd : 74 + e ≤ d) (r0 : Nat) (x1 : Int32) (x2 : Int32) (x3 : Int32) (M : ao_M) (ρ : ao_H) (y : (Int32 ⊕ String) × ao_S), fGB n e 1156 r0 x1 x2 x3 0 0 0 0 0 0 0 0 M ρ = some y → ao_W Γ uX12_statement (ao_rm d MC MS) (ao_Q Γ (ao_ZV y) MC MS) (ao_dc ρ y.2.2) (ao_ds ρ y.2.2) 156 [some (.ref (Γ.2.2.2 + r0)), some (.int x1), some (.int x2), some (.int x3), none, none, none] [] (M, ρ)) ∧ (∀ (e d MC MS : Nat) (hd : 74 + e ≤ d) (r0 : Nat) (x1 : Int32) (x2 : Int32) (x3 : Int32) (M : ao_M) (ρ : ao_H) (y : (Int32 ⊕ String) × ao_S), fGB n e 1162 r0 x1 x2 x3 0 0 0 0 0 0 0 0 M ρ = some y → ao_W Γ uX12_statement (ao_rm d MC MS) (ao_Q Γ (ao_ZV y) MC MS) (ao_dc ρ y.2.2) (ao_ds ρ y.2.2) 162 [some (.ref (Γ.2.2.2 + r0)), some (.int x1), some (.int x2), some (.int x3), none, none, none] [] (M, ρ)) ∧ (∀ (e d MC MS : Nat) (hd : 74 + e ≤ d) (r0 : Nat) (x1 : Int32) (x2 : Int32) (x3 : Int32) (s0 : Int32) (q1 : Nat) (M : ao_M) (ρ : ao_H) (y : (Int32 ⊕ String) × ao_S), fGB n e 1175 r0 x1 x2 x3 0 0 0 s0 q1 0 0 0 M ρ = some y → ao_W Γ uX12_statement (ao_rm d MC MS) (ao_Q Γ (ao_ZV y) MC MS) (ao_dc ρ y.2.2) (ao_ds ρ y.2.2) 175 [some (.ref (Γ.2.2.2 + r0)), some (.int x1), some (.int x2), some (.int x3), none, none, none] [.int s0, .ref (Γ.2.2.2 + q1)] (M, ρ)) ∧ (∀ (e d MC MS : Nat) (hd : 74 + e ≤ d) (r0 : Nat) (x1 : Int32) (x2 : Int32) (x3 : Int32) (M : ao_M) (ρ : ao_H) (y : (Int32 ⊕ String) × ao_S), fGB n e 1248 r0 x1 x2 x3 0 0 0 0 0 0 0 0 M ρ = some y → ao_W Γ uX12_statement (ao_rm d MC MS) (ao_Q Γ (ao_ZV y) MC MS) (ao_dc ρ y.2.2) (ao_ds ρ y.2.2) 248 [some (.ref (Γ.2.2.2 + r0)), some (.int x1), some (.int x2), some (.int x3), none, none, none] [] (M, ρ)) ∧ (∀ (e d MC MS : Nat) (hd : 74 + e ≤ d) (r0 : Nat) (x1 : Int32) (x2 : Int32) (x3 : Int32) (x5 : Int32) (M : ao_M) (ρ : ao_H) (y : (Int32 ⊕ String) × ao_S), fGB n e 1262 r0 x1 x2 x3 0 x5 0 0 0 0 0 0 M ρ = some y → ao_W Γ uX12_statement (ao_rm d MC MS) (ao_Q Γ (ao_ZV y) MC MS) (ao_dc ρ y.2.2) (ao_ds ρ y.2.2) 262 [some (.ref (Γ.2.2.2 + r0)), some (.int x1), some (.int x2), some (.int x3), none, some (.int x5), none] [] (M, ρ)) ∧ (∀ (e d MC MS : Nat) (hd : 74 + e ≤ d) (r0 : Nat) (x1 : Int32) (x2 : Int32) (x3 : Int32) (x5 : Int32) (x6 : Int32) (M : ao_M) (ρ : ao_H) (y : (Int32 ⊕ String) × ao_S), fGB n e 1303 r0 x1 x2 x3 0 x5 x6 0 0 0 0 0 M ρ = some y → ao_W Γ uX12_statement (ao_rm d MC MS) (ao_Q Γ (ao_ZV y) MC MS) (ao_dc ρ y.2.2) (ao_ds ρ y.2.2) 303 [some (.ref (Γ.2.2.2 + r0)), some (.int x1), some (.int x2), some (.int x3), none, some (.int x5), some (.int x6)] [] (M, ρ)) ∧ (∀ (e d MC MS : Nat) (hd : 74 + e ≤ d) (r0 : Nat) (x1 : Int32) (x2 : Int32) (x3 : Int32) (x5 : Int32) (M : ao_M) (ρ : ao_H) (y : (Int32 ⊕ String) × ao_S), fGB n e 1349 r0 x1 x2 x3 0 x5 0 0 0 0 0 0 M ρ = some y → ao_W Γ uX12_statement (ao_rm d MC MS) (ao_Q Γ (ao_ZV y) MC MS) (ao_dc ρ y.2.2) (ao_ds ρ y.2.2) 349 [some (.ref (Γ.2.2.2 + r0)), some (.int x1), some (.int x2), some (.int x3), none, some (.int x5), none] [] (M, ρ)) ∧ (∀ (e d MC MS : Nat) (hd : 74 + e ≤ d) (r0 : Nat) (x1 : Int32) (x2 : Int32) (x3 : Int32) (x4 : Int32) (x5 : Int32) (x6 : Int32) (M : ao_M) (ρ : ao_H) (y : (Int32 ⊕ String) × ao_S), fGB n e 1373 r0 x1 x2 x3 x4 x5 x6 0 0 0 0 0 M ρ = some y → ao_W Γ uX12_statement (ao_rm d MC MS) (ao_Q Γ (ao_ZV y) MC MS) (ao_dc ρ y.2.2) (ao_ds ρ y.2.2) 373 [some (.ref (Γ.2.2.2 + r0)), some (.int x1), some (.int x2), some (.int x3), some (.int x4), some (.int x5), some (.int x6)] [] (M, ρ)) ∧ (∀ (e d MC MS : Nat) (hd : 74 + e ≤ d) (r0 : Nat) (x1 : Int32) (x2 : Int32) (x3 : Int32) (M : ao_M) (ρ : ao_H) (y : (Int32 ⊕ String) × ao_S), fGB n e 1402 r0 x1 x2 x3 0 0 0 0 0 0 0 0 M ρ = some y → ao_W Γ uX12_statement (ao_rm d MC MS) (ao_Q Γ (ao_ZV y) MC MS) (ao_dc ρ y.2.2) (ao_ds ρ y.2.2) 402 [some (.ref (Γ.2.2.2 + r0)), some (.int x1), some (.int x2), some (.int x3), none, none, none] [] (M, ρ)) ∧ (∀ (e d MC MS : Nat) (hd : 74 + e ≤ d) (r0 : Nat) (x1 : Int32) (x2 : Int32) (x3 : Int32) (M : ao_M) (ρ : ao_H) (y : (Int32 ⊕ String) × ao_S), fGB n e 1406 r0 x1 x2 x3 0 0 0 0 0 0 0 0 M ρ = some y → ao_W Γ uX12_statement (ao_rm d MC MS) (ao_Q Γ (ao_ZV y) MC MS) (ao_dc ρ y.2.2) (ao_ds ρ y.2.2) 406 [some (.ref (Γ.2.2.2 + r0)), some (.int x1), some (.int x2), some (.int x3), none, none, none] [] (M, ρ)) ∧ (∀ (e d MC MS : Nat) (hd : 74 + e ≤ d) (r0 : Nat) (x1 : Int32) (x2 : Int32) (x3 : Int32) (M : ao_M) (ρ : ao_H) (y : (Int32 ⊕ String) × ao_S), fGB n e 1412 r0 x1 x2 x3 0 0 0 0 0 0 0 0 M ρ = some y → ao_W Γ uX12_statement (ao_rm d MC MS) (ao_Q Γ (ao_ZV y) MC MS) (ao_dc ρ y.2.2) (ao_ds ρ y.2.2) 412 [some (.ref (Γ.2.2.2 + r0)), some (.int x1), some (.int x2), some (.int x3), none, none, none] [] (M, ρ)) ∧ (∀ (e d MC MS : Nat) (hd : 74 + e ≤ d) (r0 : Nat) (x1 : Int32) (x2 : Int32) (x3 : Int32) (s0 : Int32) (q1 : Nat) (M : ao_M) (ρ : ao_H) (y : (Int32 ⊕ String) × ao_S), fGB n e 1425 r0 x1 x2 x3 0 0 0 s0 q1 0 0 0 M ρ = some y → ao_W Γ uX12_statement (ao_rm d MC MS) (ao_Q Γ (ao_ZV y) MC MS) (ao_dc ρ y.2.2) (ao_ds ρ y.2.2) 425 [some (.ref (Γ.2.2.2 + r0)), some (.int x1), some (.int x2), some (.int x3), none, none, none] [.int s0, .ref (Γ.2.2.2 + q1)] (M, ρ)) ∧ (∀ (e d MC MS : Nat) (hd : 74 + e ≤ d) (r0 : Nat) (x1 : Int32) (x2 : Int32) (x3 : Int32) (M : ao_M) (ρ : ao_H) (y : (Int32 ⊕ String) × ao_S), fGB n e 1435 r0 x1 x2 x3 0 0 0 0 0 0 0 0 M ρ = some y → ao_W Γ uX12_statement (ao_rm d MC MS) (ao_Q Γ (ao_ZV y) MC MS) (ao_dc ρ y.2.2) (ao_ds ρ y.2.2) 435 [some (.ref (Γ.2.2.2 + r0)), some (.int x1), some (.int x2), some (.int x3), none, none, none] [] (M, ρ)) ∧ (∀ (e d MC MS : Nat) (hd : 74 + e ≤ d) (r0 : Nat) (x1 : Int32) (x2 : Int32) (x3 : Int32) (M : ao_M) (ρ : ao_H) (y : (Int32 ⊕ String) × ao_S), fGB n e 1441 r0 x1 x2 x3 0 0 0 0 0 0 0 0 M ρ = some y → ao_W Γ uX12_statement (ao_rm d MC MS) (ao_Q Γ (ao_ZV y) MC MS) (ao_dc ρ y.2.2) (ao_ds ρ y.2.2) 441 [some (.ref (Γ.2.2.2 + r0)), some (.int x1), some (.int x2), some (.int x3), none, none, none] [] (M, ρ)) ∧ (∀ (e d MC MS : Nat) (hd : 74 + e ≤ d) (r0 : Nat) (x1 : Int32) (x2 : Int32) (x3 : Int32) (s0 : Int32) (q1 : Nat) (M : ao_M) (ρ : ao_H) (y : (Int32 ⊕ String) × ao_S), fGB n e 1455 r0 x1 x2 x3 0 0 0 s0 q1 0 0 0 M ρ = some y → ao_W Γ uX12_statement (ao_rm d MC MS) (ao_Q Γ (ao_ZV y) MC MS) (ao_dc ρ y.2.2) (ao_ds ρ y.2.2) 455 [some (.ref (Γ.2.2.2 + r0)), some (.int x1), some (.int x2), some (.int x3), none, none, none] [.int s0, .ref (Γ.2.2.2 + q1)] (M, ρ)) ∧ (∀ (e d MC MS : Nat) (hd : 74 + e ≤ d) (r0 : Nat) (x1 : Int32) (x2 : Int32) (x3 : Int32) (M : ao_M) (ρ : ao_H) (y : (Int32 ⊕ String) × ao_S), fGB n e 1469 r0 x1 x2 x3 0 0 0 0 0 0 0 0 M ρ = some y → ao_W Γ uX12_statement (ao_rm d MC MS) (ao_Q Γ (ao_ZV y) MC MS) (ao_dc ρ y.2.2) (ao_ds ρ y.2.2) 469 [some (.ref (Γ.2.2.2 + r0)), some (.int x1), some (.int x2), some (.int x3), none, none, none] [] (M, ρ)) ∧ (∀ (e d MC MS : Nat) (hd : 74 + e ≤ d) (r0 : Nat) (x1 : Int32) (x2 : Int32) (x3 : Int32) (M : ao_M) (ρ : ao_H) (y : (Int32 ⊕ String) × ao_S), fGB n e 1472 r0 x1 x2 x3 0 0 0 0 0 0 0 0 M ρ = some y → ao_W Γ uX12_statement (ao_rm d MC MS) (ao_Q Γ (ao_ZV y) MC MS) (ao_dc ρ y.2.2) (ao_ds ρ y.2.2) 472 [some (.ref (Γ.2.2.2 + r0)), some (.int x1), some (.int x2), some (.int x3), none, none, none] [] (M, ρ)) ∧ (∀ (e d MC MS : Nat) (hd : 74 + e ≤ d) (r0 : Nat) (x1 : Int32) (x2 : Int32) (x3 : Int32) (s0 : Int32) (q1 : Nat) (M : ao_M) (ρ : ao_H) (y : (Int32 ⊕ String) × ao_S), fGB n e 1483 r0 x1 x2 x3 0 0 0 s0 q1 0 0 0 M ρ = some y → ao_W Γ uX12_statement (ao_rm d MC MS) (ao_Q Γ (ao_ZV y) MC MS) (ao_dc ρ y.2.2) (ao_ds ρ y.2.2) 483 [some (.ref (Γ.2.2.2 + r0)), some (.int x1), some (.int x2), some (.int x3), none, none, none] [.int s0, .ref (Γ.2.2.2 + q1)] (M, ρ)) ∧ (∀ (e d MC MS : Nat) (hd : 74 + e ≤ d) (r0 : Nat) (x1 : Int32) (x2 : Int32) (x3 : Int32) (M : ao_M) (ρ : ao_H) (y : (Int32 ⊕ String) × ao_S), fGB n e 1486 r0 x1 x2 x3 0 0 0 0 0 0 0 0 M ρ = some y → ao_W Γ uX12_statement (ao_rm d MC MS) (ao_Q Γ (ao_ZV y) MC MS) (ao_dc ρ y.2.2) (ao_ds ρ y.2.2) 486 [some (.ref (Γ.2.2.2 + r0)), some (.int x1), some (.int x2), some (.int x3), none, none, none] [] (M, ρ)) ∧ (∀ (e d MC MS : Nat) (hd : 74 + e ≤ d) (r0 : Nat) (M : ao_M) (ρ : ao_H) (y : (Int32 ⊕ String) × ao_S), fGB n e 2000 r0 0 0 0 0 0 0 0 0 0 0 0 M ρ = some y → ao_W Γ uX12_tried (ao_rm d MC MS) (ao_Q Γ (ao_ZV y) MC MS) (ao_dc ρ y.2.2) (ao_ds ρ y.2.2) 0 [some (.ref (Γ.2.2.2 + r0)), none, none, none] [] (M, ρ)) ∧ (∀ (e d MC MS : Nat) (hd : 74 + e ≤ d) (r0 : Nat) (x1 : Int32) (M : ao_M) (ρ : ao_H) (y : (Int32 ⊕ String) × ao_S), fGB n e 2013 r0 x1 0 0 0 0 0 0 0 0 0 0 M ρ = some y → ao_W Γ uX12_tried (ao_rm d MC MS) (ao_Q Γ (ao_ZV y) MC MS) (ao_dc ρ y.2.2) (ao_ds ρ y.2.2) 13 [some (.ref (Γ.2.2.2 + r0)), some (.int x1), none, none] [] (M, ρ)) ∧ (∀ (e d MC MS : Nat) (hd : 74 + e ≤ d) (r0 : Nat) (x1 : Int32) (x2 : Int32) (x3 : Int32) (M : ao_M) (ρ : ao_H) (y : (Int32 ⊕ String) × ao_S), fGB n e 2106 r0 x1 x2 x3 0 0 0 0 0 0 0 0 M ρ = some y → ao_W Γ uX12_tried (ao_rm d MC MS) (ao_Q Γ (ao_ZV y) MC MS) (ao_dc ρ y.2.2) (ao_ds ρ y.2.2) 106 [some (.ref (Γ.2.2.2 + r0)), some (.int x1), some (.int x2), some (.int x3)] [] (M, ρ)) ∧ (∀ (e d MC MS : Nat) (hd : 74 + e ≤ d) (r0 : Nat) (x1 : Int32) (M : ao_M) (ρ : ao_H) (y : (Int32 ⊕ String) × ao_S), fGB n e 3000 r0 x1 0 0 0 0 0 0 0 0 0 0 M ρ = some y → ao_W Γ uX12_atom (ao_rm d MC MS) (ao_Q Γ (ao_ZV y) MC MS) (ao_dc ρ y.2.2) (ao_ds ρ y.2.2) 0 [some (.ref (Γ.2.2.2 + r0)), some (.int x1), none, none, none, none] [] (M, ρ)) ∧ (∀ (e d MC MS : Nat) (hd : 74 + e ≤ d) (r0 : Nat) (x1 : Int32) (x2 : Int32) (M : ao_M) (ρ : ao_H) (y : (Int32 ⊕ String) × ao_S), fGB n e 3023 r0 x1 x2 0 0 0 0 0 0 0 0 0 M ρ = some y → ao_W Γ uX12_atom (ao_rm d MC MS) (ao_Q Γ (ao_ZV y) MC MS) (ao_dc ρ y.2.2) (ao_ds ρ y.2.2) 23 [some (.ref (Γ.2.2.2 + r0)), some (.int x1), some (.int x2), none, none, none] [] (M, ρ)) ∧ (∀ (e d MC MS : Nat) (hd : 74 + e ≤ d) (r0 : Nat) (x1 : Int32) (x2 : Int32) (x3 : Int32) (x4 : Int32) (x5 : Int32) (M : ao_M) (ρ : ao_H) (y : (Int32 ⊕ String) × ao_S), fGB n e 3068 r0 x1 x2 x3 x4 x5 0 0 0 0 0 0 M ρ = some y → ao_W Γ uX12_atom (ao_rm d MC MS) (ao_Q Γ (ao_ZV y) MC MS) (ao_dc ρ y.2.2) (ao_ds ρ y.2.2) 68 [some (.ref (Γ.2.2.2 + r0)), some (.int x1), some (.int x2), some (.int x3), some (.int x4), some (.int x5)] [] (M, ρ)) ∧ (∀ (e d MC MS : Nat) (hd : 74 + e ≤ d) (r0 : Nat) (x1 : Int32) (x2 : Int32) (x3 : Int32) (x4 : Int32) (M : ao_M) (ρ : ao_H) (y : (Int32 ⊕ String) × ao_S), fGB n e 3092 r0 x1 x2 x3 x4 0 0 0 0 0 0 0 M ρ = some y → ao_W Γ uX12_atom (ao_rm d MC MS) (ao_Q Γ (ao_ZV y) MC MS) (ao_dc ρ y.2.2) (ao_ds ρ y.2.2) 92 [some (.ref (Γ.2.2.2 + r0)), some (.int x1), some (.int x2), some (.int x3), some (.int x4), none] [] (M, ρ)) ∧ (∀ (e d MC MS : Nat) (hd : 74 + e ≤ d) (r0 : Nat) (x1 : Int32) (x2 : Int32) (x3 : Int32) (x4 : Int32) (s0 : Int32) (s1 : Int32) (s2 : Int32) (q3 : Nat) (M : ao_M) (ρ : ao_H) (y : (Int32 ⊕ String) × ao_S), fGB n e 3116 r0 x1 x2 x3 x4 0 0 s0 0 s1 s2 q3 M ρ = some y → ao_W Γ uX12_atom (ao_rm d MC MS) (ao_Q Γ (ao_ZV y) MC MS) (ao_dc ρ y.2.2) (ao_ds ρ y.2.2) 116 [some (.ref (Γ.2.2.2 + r0)), some (.int x1), some (.int x2), some (.int x3), some (.int x4), none] [.int s0, .int s1, .int s2, .ref (Γ.2.2.2 + q3)] (M, ρ)) := by
  intro n
  induction n with
  | zero => exact ⟨fun _ _ _ _ _ _ _ _ _ h => ao_no h, fun _ _ _ _ _ _ _ _ _ h => ao_no h, fun _ _ _ _ _ _ _ _ _ h => ao_no h, fun _ _ _ _ _ _ _ _ _ h => ao_no h, fun _ _ _ _ _ _ _ _ _ h => ao_no h, fun _ _ _ _ _ _ _ _ _ h => ao_no h, fun _ _ _ _ _ _ _ _ _ _ _ h => ao_no h, fun _ _ _ _ _ _ _ _ _ _ _ h => ao_no h, fun _ _ _ _ _ _ _ _ _ _ _ _ h => ao_no h, fun _ _ _ _ _ _ _ _ _ _ _ _ h => ao_no h, fun _ _ _ _ _ _ _ _ _ _ _ _ h => ao_no h, fun _ _ _ _ _ _ _ _ _ _ _ _ h => ao_no h, fun _ _ _ _ _ _ _ _ _ _ _ _ h => ao_no h, fun _ _ _ _ _ _ _ _ _ _ _ _ h => ao_no h, fun _ _ _ _ _ _ _ _ _ _ _ _ h => ao_no h, fun _ _ _ _ _ _ _ _ _ _ _ _ _ _ h => ao_no h, fun _ _ _ _ _ _ _ _ _ _ _ _ h => ao_no h, fun _ _ _ _ _ _ _ _ _ _ _ _ _ h => ao_no h, fun _ _ _ _ _ _ _ _ _ _ _ _ _ _ h => ao_no h, fun _ _ _ _ _ _ _ _ _ _ _ _ _ h => ao_no h, fun _ _ _ _ _ _ _ _ _ _ _ _ _ _ _ h => ao_no h, fun _ _ _ _ _ _ _ _ _ _ _ _ h => ao_no h, fun _ _ _ _ _ _ _ _ _ _ _ _ h => ao_no h, fun _ _ _ _ _ _ _ _ _ _ _ _ h => ao_no h, fun _ _ _ _ _ _ _ _ _ _ _ _ _ _ h => ao_no h, fun _ _ _ _ _ _ _ _ _ _ _ _ h => ao_no h, fun _ _ _ _ _ _ _ _ _ _ _ _ h => ao_no h, fun _ _ _ _ _ _ _ _ _ _ _ _ _ _ h => ao_no h, fun _ _ _ _ _ _ _ _ _ _ _ _ h => ao_no h, fun _ _ _ _ _ _ _ _ _ _ _ _ h => ao_no h, fun _ _ _ _ _ _ _ _ _ _ _ _ _ _ h => ao_no h, fun _ _ _ _ _ _ _ _ _ _ _ _ h => ao_no h, fun _ _ _ _ _ _ _ _ _ h => ao_no h, fun _ _ _ _ _ _ _ _ _ _ h => ao_no h, fun _ _ _ _ _ _ _ _ _ _ _ _ h => ao_no h, fun _ _ _ _ _ _ _ _ _ _ h => ao_no h, fun _ _ _ _ _ _ _ _ _ _ _ h => ao_no h, fun _ _ _ _ _ _ _ _ _ _ _ _ _ _ h => ao_no h, fun _ _ _ _ _ _ _ _ _ _ _ _ _ h => ao_no h, fun _ _ _ _ _ _ _ _ _ _ _ _ _ _ _ _ _ h => ao_no h⟩
  | succ n ih =>
    refine ⟨?_, ?_, ?_, ?_, ?_, ?_, ?_, ?_, ?_, ?_, ?_, ?_, ?_, ?_, ?_, ?_, ?_, ?_, ?_, ?_, ?_, ?_, ?_, ?_, ?_, ?_, ?_, ?_, ?_, ?_, ?_, ?_, ?_, ?_, ?_, ?_, ?_, ?_, ?_, ?_⟩
    · intro e d MC MS hd r0 M ρ y h
      replace h := ao_ifT h rfl
      refine ao_aload_n 0 dX12_block_0 rfl rfl ?_
      refine ao_bipush (v := 123) dX12_block_1 (by decide) ?_
      obtain ⟨hk1, h⟩ := ao_some h
      obtain ⟨p2, hp2, h⟩ := ao_bind h
      refine an_callVi r0 12 (q := (RX12, TX12, 83)) [.int (123 : Int32)] (aX12_isSign (d - 1) (by omega) r0 (123 : Int32) M ρ hp2) dX12_block_3 lc_X12_60 li_X12_isSign ls_X12_isSign rfl hk1 rfl rfl (Nat.le_of_ble_eq_true rfl) (ao_hR (by omega) (by decide)) ?_
      refine ao_if_ne 18 dX12_block_6 (by decide) (fun c3 => ?_) (fun c3 => ?_)
      · replace h := ao_ifF h c3
        refine ao_aload_n 0 dX12_block_18 rfl rfl ?_
        obtain ⟨p4, hp4, h⟩ := ao_bind h
        refine cx_callVv r0 12 (q := (RX12, TX12, 83)) [] (aX12_enter (d - 1) (by omega) n r0 p2.2 ρ hp4) dX12_block_19 lc_X12_97 li_X12_enter ls_X12_enter rfl hk1 rfl rfl (Nat.le_of_ble_eq_true rfl) (ao_hR (by omega) (by decide)) (ao_leC (me_X12_enter n r0 p2.2 ρ hp4) (ao_csM h (fun _ h => (mGB n).2.1 e r0 p4.2.1 p4.2.2 _ h) (fun _ h => by cases h; exact ao_le_rf _))) (ao_leS (me_X12_enter n r0 p2.2 ρ hp4) (ao_csM h (fun _ h => (mGB n).2.1 e r0 p4.2.1 p4.2.2 _ h) (fun _ h => by cases h; exact ao_le_rf _))) (fun _ e5 => ?_) (fun _ e5 => ?_)
        · replace h := ao_csL h e5
          exact ih.2.1 e d MC MS hd r0 p4.2.1 p4.2.2 _ h
        · replace h := ao_csR h e5
          cases h
          exact cx_out rfl ⟨rfl, rfl⟩
      · replace h := ao_ifT h c3
        refine ao_aload_n 0 dX12_block_9 rfl rfl ?_
        refine ao_aload_n 0 dX12_block_10 rfl rfl ?_
        refine an_getI r0 12 11 (q := (RX12, TX12, 83)) dX12_block_11 rfl hk1 (Nat.le_of_ble_eq_true rfl) rfl lf_X12_39 ?_
        obtain ⟨p6, hp6, h⟩ := ao_bind h
        refine an_callVr r0 12 (q := (RX12, TX12, 83)) [.int (p2.2 r0 11)] (aX12_wrong (d - 1) (by omega) r0 (p2.2 r0 11) p2.2 ρ hp6) dX12_block_14 lc_X12_70 li_X12_wrong ls_X12_wrong rfl hk1 rfl rfl (Nat.le_of_ble_eq_true rfl) (ao_hR (by omega) (by decide)) ?_
        obtain ⟨hk7, h⟩ := ao_some h
        cases h
        exact cx_athrow p6.1 11 (q := (RX11, TX11, 6)) dX12_block_17 rfl hk7 rfl ⟨rfl, rfl⟩
    · intro e d MC MS hd r0 M ρ y h
      replace h := ao_ifF h (by decide)
      replace h := ao_ifT h rfl
      refine ao_aload_n 0 dX12_block_22 rfl rfl ?_
      obtain ⟨hk8, h⟩ := ao_some h
      obtain ⟨p9, hp9, h⟩ := ao_bind h
      refine an_callVv r0 12 (q := (RX12, TX12, 83)) [] (aX12_token (d - 1) (by omega) _ r0 M ρ hp9) dX12_block_23 lc_X12_63 li_X12_token ls_X12_token rfl hk8 rfl rfl (Nat.le_of_ble_eq_true rfl) (ao_hR (by omega) (by decide)) ?_
      exact ih.2.2.1 e d MC MS hd r0 p9 ρ _ h
    · intro e d MC MS hd r0 M ρ y h
      replace h := ao_ifF h (by decide)
      replace h := ao_ifF h (by decide)
      replace h := ao_ifT h rfl
      refine ao_aload_n 0 dX12_block_26 rfl rfl ?_
      refine ao_bipush (v := 125) dX12_block_27 (by decide) ?_
      obtain ⟨hk10, h⟩ := ao_some h
      obtain ⟨p11, hp11, h⟩ := ao_bind h
      refine an_callVi r0 12 (q := (RX12, TX12, 83)) [.int (125 : Int32)] (aX12_isSign (d - 1) (by omega) r0 (125 : Int32) M ρ hp11) dX12_block_29 lc_X12_60 li_X12_isSign ls_X12_isSign rfl hk10 rfl rfl (Nat.le_of_ble_eq_true rfl) (ao_hR (by omega) (by decide)) ?_
      refine ao_if_ne 42 dX12_block_32 (by decide) (fun c12 => ?_) (fun c12 => ?_)
      · replace h := ao_ifF h c12
        refine ao_aload_n 0 dX12_block_42 rfl rfl ?_
        obtain ⟨p13, hp13, h⟩ := ao_bind h
        refine an_callVv r0 12 (q := (RX12, TX12, 83)) [] (aX12_token (d - 1) (by omega) _ r0 p11.2 ρ hp13) dX12_block_43 lc_X12_63 li_X12_token ls_X12_token rfl hk10 rfl rfl (Nat.le_of_ble_eq_true rfl) (ao_hR (by omega) (by decide)) ?_
        refine ao_aload_n 0 dX12_block_46 rfl rfl ?_
        refine ao_dup dX12_block_47 rfl ?_
        refine an_getI r0 12 14 (q := (RX12, TX12, 83)) dX12_block_48 rfl hk10 (Nat.le_of_ble_eq_true rfl) rfl lf_X12_81 ?_
        refine ao_iconst (v := 1) dX12_block_51 (by decide) ?_
        refine ao_isub dX12_block_52 ?_
        refine an_putI r0 12 14 (q := (RX12, TX12, 83)) dX12_block_53 rfl hk10 (Nat.le_of_ble_eq_true rfl) lf_X12_81 rfl rfl rfl rfl (fun M14 hM14 => ?_)
        replace h := ao_letD h hM14
        cases h
        exact ao_return dX12_block_56 rfl ⟨rfl, rfl⟩
      · replace h := ao_ifT h c12
        refine ao_aload_n 0 dX12_block_35 rfl rfl ?_
        obtain ⟨he16, h⟩ := ao_some h
        obtain ⟨p15, hp15, h⟩ := ao_bind h
        have hAp15 : ao_A Γ uX12_statement (d - 1) (ao_dc ρ p15.2.2) (ao_ds ρ p15.2.2) [.ref (Γ.2.2.2 + r0)] (p11.2, ρ) (ao_ZV p15) := by
          refine ao_of (by decide) (ao_cat1 (Nat.le_of_ble_eq_true rfl)) (Nat.le_of_ble_eq_true rfl) ?_
          show ao_W Γ uX12_statement (ao_rm (d - 1) (ao_dc ρ p15.2.2) (ao_ds ρ p15.2.2)) (ao_Q Γ (ao_ZV p15) (ao_dc ρ p15.2.2) (ao_ds ρ p15.2.2)) (ao_dc ρ p15.2.2) (ao_ds ρ p15.2.2) 0 [some (.ref (Γ.2.2.2 + r0)), none, none, none, none, none, none] [] (p11.2, ρ)
          exact ih.2.2.2.2.1 (e - 1) (d - 1) _ _ (by omega) r0 p11.2 ρ _ hp15
        refine cx_callVv r0 12 (q := (RX12, TX12, 83)) [] hAp15 dX12_block_36 lc_X12_107 li_X12_statement ls_X12_statement rfl hk10 rfl rfl (Nat.le_of_ble_eq_true rfl) (ao_hR (by omega) (by decide)) (ao_leC ((mGB n).2.2.2.2.1 (e - 1) r0 p11.2 ρ _ hp15) (ao_csM h (fun _ h => (mGB n).2.2.2.1 e r0 p15.2.1 p15.2.2 _ h) (fun _ h => by cases h; exact ao_le_rf _))) (ao_leS ((mGB n).2.2.2.2.1 (e - 1) r0 p11.2 ρ _ hp15) (ao_csM h (fun _ h => (mGB n).2.2.2.1 e r0 p15.2.1 p15.2.2 _ h) (fun _ h => by cases h; exact ao_le_rf _))) (fun _ e17 => ?_) (fun _ e17 => ?_)
        · replace h := ao_csL h e17
          exact ih.2.2.2.1 e d MC MS hd r0 p15.2.1 p15.2.2 _ h
        · replace h := ao_csR h e17
          cases h
          exact cx_out rfl ⟨rfl, rfl⟩
    · intro e d MC MS hd r0 M ρ y h
      replace h := ao_ifF h (by decide)
      replace h := ao_ifF h (by decide)
      replace h := ao_ifF h (by decide)
      replace h := ao_ifT h rfl
      refine ao_goto 26 dX12_block_39 (by decide) ?_
      exact ih.2.2.1 e d MC MS hd r0 M ρ _ h
    · intro e d MC MS hd r0 M ρ y h
      replace h := ao_ifF h (by decide)
      replace h := ao_ifF h (by decide)
      replace h := ao_ifF h (by decide)
      replace h := ao_ifF h (by decide)
      replace h := ao_ifT h rfl
      refine ao_aload_n 0 dX12_statement_0 rfl rfl ?_
      obtain ⟨hk1, h⟩ := ao_some h
      refine an_getI r0 12 9 (q := (RX12, TX12, 83)) dX12_statement_1 rfl hk1 (Nat.le_of_ble_eq_true rfl) rfl lf_X12_42 ?_
      refine ao_if_eq 14 dX12_statement_4 (by decide) (fun c2 => ?_) (fun c2 => ?_)
      · replace h := ao_ifT h c2
        exact ih.2.2.2.2.2.1 e d MC MS hd r0 M ρ _ h
      · replace h := ao_ifF h c2
        refine ao_aload_n 0 dX12_statement_7 rfl rfl ?_
        refine an_getI r0 12 9 (q := (RX12, TX12, 83)) dX12_statement_8 rfl hk1 (Nat.le_of_ble_eq_true rfl) rfl lf_X12_42 ?_
        refine ao_if_ge 23 dX12_statement_11 (by decide) (fun c3 => ?_) (fun c3 => ?_)
        · replace h := ao_ifT h c3
          refine ao_aload_n 0 dX12_statement_23 rfl rfl ?_
          refine an_getI r0 12 9 (q := (RX12, TX12, 83)) dX12_statement_24 rfl hk1 (Nat.le_of_ble_eq_true rfl) rfl lf_X12_42 ?_
          refine an_topi (fun v4 hv4 => ?_)
          replace h := ao_letD h hv4
          refine ao_istore_n 1 (lo' := [some (.ref (Γ.2.2.2 + r0)), some (.int v4), none, none, none, none, none]) dX12_statement_27 rfl (Nat.le_of_ble_eq_true rfl) rfl ?_
          refine ao_aload_n 0 dX12_statement_28 rfl rfl ?_
          refine an_getI r0 12 10 (q := (RX12, TX12, 83)) dX12_statement_29 rfl hk1 (Nat.le_of_ble_eq_true rfl) rfl lf_X12_49 ?_
          refine an_topi (fun v5 hv5 => ?_)
          replace h := ao_letD h hv5
          refine ao_istore_n 2 (lo' := [some (.ref (Γ.2.2.2 + r0)), some (.int v4), some (.int v5), none, none, none, none]) dX12_statement_32 rfl (Nat.le_of_ble_eq_true rfl) rfl ?_
          refine ao_iload_n 1 dX12_statement_33 rfl rfl ?_
          refine ao_iconst (v := 1) dX12_statement_34 (by decide) ?_
          refine ao_icmp_eq 65 dX12_statement_35 (by decide) (fun c6 => ?_) (fun c6 => ?_)
          · replace h := ao_ifT h c6
            exact ih.2.2.2.2.2.2.1 e d MC MS hd r0 v4 v5 M ρ _ h
          · replace h := ao_ifF h c6
            refine ao_iload_n 1 dX12_statement_38 rfl rfl ?_
            refine ao_iconst (v := 2) dX12_statement_39 (by decide) ?_
            refine ao_icmp_eq 65 dX12_statement_40 (by decide) (fun c7 => ?_) (fun c7 => ?_)
            · replace h := ao_ifT h c7
              exact ih.2.2.2.2.2.2.1 e d MC MS hd r0 v4 v5 M ρ _ h
            · replace h := ao_ifF h c7
              refine ao_iload_n 1 dX12_statement_43 rfl rfl ?_
              refine ao_iconst (v := 3) dX12_statement_44 (by decide) ?_
              refine ao_icmp_ne 69 dX12_statement_45 (by decide) (fun c8 => ?_) (fun c8 => ?_)
              · replace h := ao_ifF h c8
                exact ih.2.2.2.2.2.2.2.1 e d MC MS hd r0 v4 v5 M ρ _ h
              · replace h := ao_ifT h c8
                refine ao_iload_n 2 dX12_statement_48 rfl rfl ?_
                refine ao_iconst (v := 1) dX12_statement_49 (by decide) ?_
                refine ao_icmp_eq 69 dX12_statement_50 (by decide) (fun c9 => ?_) (fun c9 => ?_)
                · replace h := ao_ifT h c9
                  exact ih.2.2.2.2.2.2.2.1 e d MC MS hd r0 v4 v5 M ρ _ h
                · replace h := ao_ifF h c9
                  refine ao_iload_n 2 dX12_statement_53 rfl rfl ?_
                  refine ao_bipush (v := 6) dX12_statement_54 (by decide) ?_
                  refine ao_icmp_eq 69 dX12_statement_56 (by decide) (fun c10 => ?_) (fun c10 => ?_)
                  · replace h := ao_ifT h c10
                    exact ih.2.2.2.2.2.2.2.1 e d MC MS hd r0 v4 v5 M ρ _ h
                  · replace h := ao_ifF h c10
                    refine ao_iload_n 2 dX12_statement_59 rfl rfl ?_
                    refine ao_bipush (v := 11) dX12_statement_60 (by decide) ?_
                    refine ao_icmp_eq 69 dX12_statement_62 (by decide) (fun c11 => ?_) (fun c11 => ?_)
                    · replace h := ao_ifT h c11
                      exact ih.2.2.2.2.2.2.2.1 e d MC MS hd r0 v4 v5 M ρ _ h
                    · replace h := ao_ifF h c11
                      exact ih.2.2.2.2.2.2.1 e d MC MS hd r0 v4 v5 M ρ _ h
        · replace h := ao_ifF h c3
          exact ih.2.2.2.2.2.1 e d MC MS hd r0 M ρ _ h
    · intro e d MC MS hd r0 M ρ y h
      replace h := ao_ifF h (by decide)
      replace h := ao_ifF h (by decide)
      replace h := ao_ifF h (by decide)
      replace h := ao_ifF h (by decide)
      replace h := ao_ifF h (by decide)
      replace h := ao_ifT h rfl
      refine ao_aload_n 0 dX12_statement_14 rfl rfl ?_
      refine ao_aload_n 0 dX12_statement_15 rfl rfl ?_
      obtain ⟨hk12, h⟩ := ao_some h
      refine an_getI r0 12 11 (q := (RX12, TX12, 83)) dX12_statement_16 rfl hk12 (Nat.le_of_ble_eq_true rfl) rfl lf_X12_39 ?_
      obtain ⟨p13, hp13, h⟩ := ao_bind h
      refine an_callVr r0 12 (q := (RX12, TX12, 83)) [.int (M r0 11)] (aX12_wrong (d - 1) (by omega) r0 (M r0 11) M ρ hp13) dX12_statement_19 lc_X12_70 li_X12_wrong ls_X12_wrong rfl hk12 rfl rfl (Nat.le_of_ble_eq_true rfl) (ao_hR (by omega) (by decide)) ?_
      obtain ⟨hk14, h⟩ := ao_some h
      cases h
      exact cx_athrow p13.1 11 (q := (RX11, TX11, 6)) dX12_statement_22 rfl hk14 rfl ⟨rfl, rfl⟩
    · intro e d MC MS hd r0 x1 x2 M ρ y h
      replace h := ao_ifF h (by decide)
      replace h := ao_ifF h (by decide)
      replace h := ao_ifF h (by decide)
      replace h := ao_ifF h (by decide)
      replace h := ao_ifF h (by decide)
      replace h := ao_ifF h (by decide)
      replace h := ao_ifT h rfl
      refine ao_iconst (v := 1) dX12_statement_65 (by decide) ?_
      refine ao_goto 70 dX12_statement_66 (by decide) ?_
      exact ih.2.2.2.2.2.2.2.2.1 e d MC MS hd r0 x1 x2 (1 : Int32) M ρ _ h
    · intro e d MC MS hd r0 x1 x2 M ρ y h
      replace h := ao_ifF h (by decide)
      replace h := ao_ifF h (by decide)
      replace h := ao_ifF h (by decide)
      replace h := ao_ifF h (by decide)
      replace h := ao_ifF h (by decide)
      replace h := ao_ifF h (by decide)
      replace h := ao_ifF h (by decide)
      replace h := ao_ifT h rfl
      refine ao_iconst (v := 0) dX12_statement_69 (by decide) ?_
      exact ih.2.2.2.2.2.2.2.2.1 e d MC MS hd r0 x1 x2 (0 : Int32) M ρ _ h
    · intro e d MC MS hd r0 x1 x2 s0 M ρ y h
      replace h := ao_ifF h (by decide)
      replace h := ao_ifF h (by decide)
      replace h := ao_ifF h (by decide)
      replace h := ao_ifF h (by decide)
      replace h := ao_ifF h (by decide)
      replace h := ao_ifF h (by decide)
      replace h := ao_ifF h (by decide)
      replace h := ao_ifF h (by decide)
      replace h := ao_ifT h rfl
      refine ao_istore_n 3 (lo' := [some (.ref (Γ.2.2.2 + r0)), some (.int x1), some (.int x2), some (.int s0), none, none, none]) dX12_statement_70 rfl (Nat.le_of_ble_eq_true rfl) rfl ?_
      refine ao_iload_n 3 dX12_statement_71 rfl rfl ?_
      refine ao_if_eq 99 dX12_statement_72 (by decide) (fun c15 => ?_) (fun c15 => ?_)
      · replace h := ao_ifT h c15
        exact ih.2.2.2.2.2.2.2.2.2.2.1 e d MC MS hd r0 x1 x2 s0 M ρ _ h
      · replace h := ao_ifF h c15
        refine ao_iload_n 1 dX12_statement_75 rfl rfl ?_
        refine ao_iconst (v := 3) dX12_statement_76 (by decide) ?_
        refine ao_icmp_ne 108 dX12_statement_77 (by decide) (fun c16 => ?_) (fun c16 => ?_)
        · replace h := ao_ifF h c16
          exact ih.2.2.2.2.2.2.2.2.2.2.2.1 e d MC MS hd r0 x1 x2 s0 M ρ _ h
        · replace h := ao_ifT h c16
          refine ao_iload_n 2 dX12_statement_80 rfl rfl ?_
          refine ao_bipush (v := 7) dX12_statement_81 (by decide) ?_
          refine ao_icmp_eq 92 dX12_statement_83 (by decide) (fun c17 => ?_) (fun c17 => ?_)
          · replace h := ao_ifT h c17
            exact ih.2.2.2.2.2.2.2.2.2.1 e d MC MS hd r0 x1 x2 s0 M ρ _ h
          · replace h := ao_ifF h c17
            refine ao_iload_n 2 dX12_statement_86 rfl rfl ?_
            refine ao_bipush (v := 8) dX12_statement_87 (by decide) ?_
            refine ao_icmp_ne 108 dX12_statement_89 (by decide) (fun c18 => ?_) (fun c18 => ?_)
            · replace h := ao_ifF h c18
              exact ih.2.2.2.2.2.2.2.2.2.2.2.1 e d MC MS hd r0 x1 x2 s0 M ρ _ h
            · replace h := ao_ifT h c18
              exact ih.2.2.2.2.2.2.2.2.2.1 e d MC MS hd r0 x1 x2 s0 M ρ _ h
    · intro e d MC MS hd r0 x1 x2 x3 M ρ y h
      replace h := ao_ifF h (by decide)
      replace h := ao_ifF h (by decide)
      replace h := ao_ifF h (by decide)
      replace h := ao_ifF h (by decide)
      replace h := ao_ifF h (by decide)
      replace h := ao_ifF h (by decide)
      replace h := ao_ifF h (by decide)
      replace h := ao_ifF h (by decide)
      replace h := ao_ifF h (by decide)
      replace h := ao_ifT h rfl
      refine ao_aload_n 0 dX12_statement_92 rfl rfl ?_
      obtain ⟨hk19, h⟩ := ao_some h
      refine an_getI r0 12 16 (q := (RX12, TX12, 83)) dX12_statement_93 rfl hk19 (Nat.le_of_ble_eq_true rfl) rfl lf_X12_110 ?_
      refine ao_if_ne 108 dX12_statement_96 (by decide) (fun c20 => ?_) (fun c20 => ?_)
      · replace h := ao_ifF h c20
        exact ih.2.2.2.2.2.2.2.2.2.2.2.1 e d MC MS hd r0 x1 x2 x3 M ρ _ h
      · replace h := ao_ifT h c20
        exact ih.2.2.2.2.2.2.2.2.2.2.1 e d MC MS hd r0 x1 x2 x3 M ρ _ h
    · intro e d MC MS hd r0 x1 x2 x3 M ρ y h
      replace h := ao_ifF h (by decide)
      replace h := ao_ifF h (by decide)
      replace h := ao_ifF h (by decide)
      replace h := ao_ifF h (by decide)
      replace h := ao_ifF h (by decide)
      replace h := ao_ifF h (by decide)
      replace h := ao_ifF h (by decide)
      replace h := ao_ifF h (by decide)
      replace h := ao_ifF h (by decide)
      replace h := ao_ifF h (by decide)
      replace h := ao_ifT h rfl
      refine ao_aload_n 0 dX12_statement_99 rfl rfl ?_
      refine ao_aload_n 0 dX12_statement_100 rfl rfl ?_
      obtain ⟨hk21, h⟩ := ao_some h
      refine an_getI r0 12 11 (q := (RX12, TX12, 83)) dX12_statement_101 rfl hk21 (Nat.le_of_ble_eq_true rfl) rfl lf_X12_39 ?_
      obtain ⟨p22, hp22, h⟩ := ao_bind h
      refine an_callVr r0 12 (q := (RX12, TX12, 83)) [.int (M r0 11)] (aX12_wrong (d - 1) (by omega) r0 (M r0 11) M ρ hp22) dX12_statement_104 lc_X12_70 li_X12_wrong ls_X12_wrong rfl hk21 rfl rfl (Nat.le_of_ble_eq_true rfl) (ao_hR (by omega) (by decide)) ?_
      obtain ⟨hk23, h⟩ := ao_some h
      cases h
      exact cx_athrow p22.1 11 (q := (RX11, TX11, 6)) dX12_statement_107 rfl hk23 rfl ⟨rfl, rfl⟩
    · intro e d MC MS hd r0 x1 x2 x3 M ρ y h
      replace h := ao_ifF h (by decide)
      replace h := ao_ifF h (by decide)
      replace h := ao_ifF h (by decide)
      replace h := ao_ifF h (by decide)
      replace h := ao_ifF h (by decide)
      replace h := ao_ifF h (by decide)
      replace h := ao_ifF h (by decide)
      replace h := ao_ifF h (by decide)
      replace h := ao_ifF h (by decide)
      replace h := ao_ifF h (by decide)
      replace h := ao_ifF h (by decide)
      replace h := ao_ifT h rfl
      refine ao_aload_n 0 dX12_statement_108 rfl rfl ?_
      obtain ⟨hk24, h⟩ := ao_some h
      refine an_getI r0 12 15 (q := (RX12, TX12, 83)) dX12_statement_109 rfl hk24 (Nat.le_of_ble_eq_true rfl) rfl lf_X12_113 ?_
      refine ao_sipush (v := 300) dX12_statement_112 (by decide) ?_
      refine ao_icmp_ne 127 dX12_statement_115 (by decide) (fun c25 => ?_) (fun c25 => ?_)
      · replace h := ao_ifF h c25
        refine ao_aload_n 0 dX12_statement_127 rfl rfl ?_
        refine ao_dup dX12_statement_128 rfl ?_
        refine an_getI r0 12 15 (q := (RX12, TX12, 83)) dX12_statement_129 rfl hk24 (Nat.le_of_ble_eq_true rfl) rfl lf_X12_113 ?_
        refine ao_iconst (v := 1) dX12_statement_132 (by decide) ?_
        refine ao_iadd dX12_statement_133 ?_
        refine an_putI r0 12 15 (q := (RX12, TX12, 83)) dX12_statement_134 rfl hk24 (Nat.le_of_ble_eq_true rfl) lf_X12_113 rfl rfl rfl rfl (fun M26 hM26 => ?_)
        replace h := ao_letD h hM26
        refine ao_aload_n 0 dX12_statement_137 rfl rfl ?_
        obtain ⟨p27, hp27, h⟩ := ao_bind h
        refine an_callVv r0 12 (q := (RX12, TX12, 83)) [] (aX12_token (d - 1) (by omega) _ r0 M26 ρ hp27) dX12_statement_138 lc_X12_63 li_X12_token ls_X12_token rfl hk24 rfl rfl (Nat.le_of_ble_eq_true rfl) (ao_hR (by omega) (by decide)) ?_
        refine ao_iload_n 1 dX12_statement_141 rfl rfl ?_
        refine ao_iconst (v := 3) dX12_statement_142 (by decide) ?_
        refine ao_icmp_eq 183 dX12_statement_143 (by decide) (fun c28 => ?_) (fun c28 => ?_)
        · replace h := ao_ifT h c28
          refine ao_iload_n 2 dX12_statement_183 rfl rfl ?_
          by_cases c29 : x2 = (0 : Int32)
          · replace h := ao_ifT h c29
            refine ao_tableIn 244 dX12_statement_184 (by rw [c29]; decide) (by rw [c29]; decide) (by rw [c29]; rfl) (by decide) ?_
            refine ao_aload_n 0 dX12_statement_244 rfl rfl ?_
            obtain ⟨p30, hp30, h⟩ := ao_bind h
            refine cx_callVv r0 12 (q := (RX12, TX12, 83)) [] (aX12_condition (d - 1) (by omega) n r0 p27 ρ hp30) dX12_statement_245 lc_X12_116 li_X12_condition ls_X12_condition rfl hk24 rfl rfl (Nat.le_of_ble_eq_true rfl) (ao_hR (by omega) (by decide)) (ao_leC (me_X12_condition n r0 p27 ρ hp30) (ao_csM h (fun _ h => (mGB n).2.2.2.2.2.2.2.2.2.2.2.2.2.2.2.2.1 e r0 x1 x2 x3 p30.2.1 p30.2.2 _ h) (fun _ h => by cases h; exact ao_le_rf _))) (ao_leS (me_X12_condition n r0 p27 ρ hp30) (ao_csM h (fun _ h => (mGB n).2.2.2.2.2.2.2.2.2.2.2.2.2.2.2.2.1 e r0 x1 x2 x3 p30.2.1 p30.2.2 _ h) (fun _ h => by cases h; exact ao_le_rf _))) (fun _ e31 => ?_) (fun _ e31 => ?_)
            · replace h := ao_csL h e31
              exact ih.2.2.2.2.2.2.2.2.2.2.2.2.2.2.2.2.1 e d MC MS hd r0 x1 x2 x3 p30.2.1 p30.2.2 _ h
            · replace h := ao_csR h e31
              cases h
              exact cx_out rfl ⟨rfl, rfl⟩
          · replace h := ao_ifF h c29
            by_cases c32 : x2 = (2 : Int32)
            · replace h := ao_ifT h c32
              refine ao_tableIn 339 dX12_statement_184 (by rw [c32]; decide) (by rw [c32]; decide) (by rw [c32]; rfl) (by decide) ?_
              refine ao_aload_n 0 dX12_statement_339 rfl rfl ?_
              refine an_getI r0 12 13 (q := (RX12, TX12, 83)) dX12_statement_340 rfl hk24 (Nat.le_of_ble_eq_true rfl) rfl lf_X12_78 ?_
              refine an_topi (fun v33 hv33 => ?_)
              replace h := ao_letD h hv33
              refine ao_istore 5 (lo' := [some (.ref (Γ.2.2.2 + r0)), some (.int x1), some (.int x2), some (.int x3), none, some (.int v33), none]) dX12_statement_343 (Nat.le_of_ble_eq_true rfl) rfl ?_
              refine ao_aload_n 0 dX12_statement_345 rfl rfl ?_
              obtain ⟨p34, hp34, h⟩ := ao_bind h
              refine cx_callVv r0 12 (q := (RX12, TX12, 83)) [] (aX12_condition (d - 1) (by omega) n r0 p27 ρ hp34) dX12_statement_346 lc_X12_116 li_X12_condition ls_X12_condition rfl hk24 rfl rfl (Nat.le_of_ble_eq_true rfl) (ao_hR (by omega) (by decide)) (ao_leC (me_X12_condition n r0 p27 ρ hp34) (ao_csM h (fun _ h => (mGB n).2.2.2.2.2.2.2.2.2.2.2.2.2.2.2.2.2.2.2.1 e r0 x1 x2 x3 v33 p34.2.1 p34.2.2 _ h) (fun _ h => by cases h; exact ao_le_rf _))) (ao_leS (me_X12_condition n r0 p27 ρ hp34) (ao_csM h (fun _ h => (mGB n).2.2.2.2.2.2.2.2.2.2.2.2.2.2.2.2.2.2.2.1 e r0 x1 x2 x3 v33 p34.2.1 p34.2.2 _ h) (fun _ h => by cases h; exact ao_le_rf _))) (fun _ e35 => ?_) (fun _ e35 => ?_)
              · replace h := ao_csL h e35
                exact ih.2.2.2.2.2.2.2.2.2.2.2.2.2.2.2.2.2.2.2.1 e d MC MS hd r0 x1 x2 x3 v33 p34.2.1 p34.2.2 _ h
              · replace h := ao_csR h e35
                cases h
                exact cx_out rfl ⟨rfl, rfl⟩
            · replace h := ao_ifF h c32
              by_cases c36 : x2 = (3 : Int32)
              · replace h := ao_ifT h c36
                refine ao_tableIn 402 dX12_statement_184 (by rw [c36]; decide) (by rw [c36]; decide) (by rw [c36]; rfl) (by decide) ?_
                exact ih.2.2.2.2.2.2.2.2.2.2.2.2.2.2.2.2.2.2.2.2.2.1 e d MC MS hd r0 x1 x2 x3 p27 ρ _ h
              · replace h := ao_ifF h c36
                by_cases c37 : x2 = (7 : Int32)
                · replace h := ao_ifT h c37
                  refine ao_tableIn 435 dX12_statement_184 (by rw [c37]; decide) (by rw [c37]; decide) (by rw [c37]; rfl) (by decide) ?_
                  exact ih.2.2.2.2.2.2.2.2.2.2.2.2.2.2.2.2.2.2.2.2.2.2.2.2.2.1 e d MC MS hd r0 x1 x2 x3 p27 ρ _ h
                · replace h := ao_ifF h c37
                  by_cases c38 : x2 = (8 : Int32)
                  · replace h := ao_ifT h c38
                    refine ao_tableIn 435 dX12_statement_184 (by rw [c38]; decide) (by rw [c38]; decide) (by rw [c38]; rfl) (by decide) ?_
                    exact ih.2.2.2.2.2.2.2.2.2.2.2.2.2.2.2.2.2.2.2.2.2.2.2.2.2.1 e d MC MS hd r0 x1 x2 x3 p27 ρ _ h
                  · replace h := ao_ifF h c38
                    by_cases c39 : x2 = (9 : Int32)
                    · replace h := ao_ifT h c39
                      refine ao_tableIn 402 dX12_statement_184 (by rw [c39]; decide) (by rw [c39]; decide) (by rw [c39]; rfl) (by decide) ?_
                      exact ih.2.2.2.2.2.2.2.2.2.2.2.2.2.2.2.2.2.2.2.2.2.1 e d MC MS hd r0 x1 x2 x3 p27 ρ _ h
                    · replace h := ao_ifF h c39
                      by_cases c40 : x2 = (10 : Int32)
                      · replace h := ao_ifT h c40
                        refine ao_tableIn 465 dX12_statement_184 (by rw [c40]; decide) (by rw [c40]; decide) (by rw [c40]; rfl) (by decide) ?_
                        refine ao_aload_n 0 dX12_statement_465 rfl rfl ?_
                        obtain ⟨he42, h⟩ := ao_some h
                        obtain ⟨p41, hp41, h⟩ := ao_bind h
                        have hAp41 : ao_A Γ uX12_tried (d - 1) (ao_dc ρ p41.2.2) (ao_ds ρ p41.2.2) [.ref (Γ.2.2.2 + r0)] (p27, ρ) (ao_ZV p41) := by
                          refine ao_of (by decide) (ao_cat1 (Nat.le_of_ble_eq_true rfl)) (Nat.le_of_ble_eq_true rfl) ?_
                          show ao_W Γ uX12_tried (ao_rm (d - 1) (ao_dc ρ p41.2.2) (ao_ds ρ p41.2.2)) (ao_Q Γ (ao_ZV p41) (ao_dc ρ p41.2.2) (ao_ds ρ p41.2.2)) (ao_dc ρ p41.2.2) (ao_ds ρ p41.2.2) 0 [some (.ref (Γ.2.2.2 + r0)), none, none, none] [] (p27, ρ)
                          exact ih.2.2.2.2.2.2.2.2.2.2.2.2.2.2.2.2.2.2.2.2.2.2.2.2.2.2.2.2.2.2.2.2.1 (e - 1) (d - 1) _ _ (by omega) r0 p27 ρ _ hp41
                        refine cx_callVv r0 12 (q := (RX12, TX12, 83)) [] hAp41 dX12_statement_466 lc_X12_125 li_X12_tried ls_X12_tried rfl hk24 rfl rfl (Nat.le_of_ble_eq_true rfl) (ao_hR (by omega) (by decide)) (ao_leC ((mGB n).2.2.2.2.2.2.2.2.2.2.2.2.2.2.2.2.2.2.2.2.2.2.2.2.2.2.2.2.2.2.2.2.1 (e - 1) r0 p27 ρ _ hp41) (ao_csM h (fun _ h => (mGB n).2.2.2.2.2.2.2.2.2.2.2.2.2.2.2.2.2.2.2.2.2.2.2.2.2.2.2.2.1 e r0 x1 x2 x3 p41.2.1 p41.2.2 _ h) (fun _ h => by cases h; exact ao_le_rf _))) (ao_leS ((mGB n).2.2.2.2.2.2.2.2.2.2.2.2.2.2.2.2.2.2.2.2.2.2.2.2.2.2.2.2.2.2.2.2.1 (e - 1) r0 p27 ρ _ hp41) (ao_csM h (fun _ h => (mGB n).2.2.2.2.2.2.2.2.2.2.2.2.2.2.2.2.2.2.2.2.2.2.2.2.2.2.2.2.1 e r0 x1 x2 x3 p41.2.1 p41.2.2 _ h) (fun _ h => by cases h; exact ao_le_rf _))) (fun _ e43 => ?_) (fun _ e43 => ?_)
                        · replace h := ao_csL h e43
                          exact ih.2.2.2.2.2.2.2.2.2.2.2.2.2.2.2.2.2.2.2.2.2.2.2.2.2.2.2.2.1 e d MC MS hd r0 x1 x2 x3 p41.2.1 p41.2.2 _ h
                        · replace h := ao_csR h e43
                          cases h
                          exact cx_out rfl ⟨rfl, rfl⟩
                      · replace h := ao_ifF h c40
                        by_cases c44 : x2 = (1 : Int32)
                        · refine ao_tableIn 472 dX12_statement_184 (by rw [c44]; decide) (by rw [c44]; decide) (by rw [c44]; rfl) (by decide) ?_
                          exact ih.2.2.2.2.2.2.2.2.2.2.2.2.2.2.2.2.2.2.2.2.2.2.2.2.2.2.2.2.2.1 e d MC MS hd r0 x1 x2 x3 p27 ρ _ h
                        · by_cases c45 : x2 = (4 : Int32)
                          · refine ao_tableIn 472 dX12_statement_184 (by rw [c45]; decide) (by rw [c45]; decide) (by rw [c45]; rfl) (by decide) ?_
                            exact ih.2.2.2.2.2.2.2.2.2.2.2.2.2.2.2.2.2.2.2.2.2.2.2.2.2.2.2.2.2.1 e d MC MS hd r0 x1 x2 x3 p27 ρ _ h
                          · by_cases c46 : x2 = (5 : Int32)
                            · refine ao_tableIn 472 dX12_statement_184 (by rw [c46]; decide) (by rw [c46]; decide) (by rw [c46]; rfl) (by decide) ?_
                              exact ih.2.2.2.2.2.2.2.2.2.2.2.2.2.2.2.2.2.2.2.2.2.2.2.2.2.2.2.2.2.1 e d MC MS hd r0 x1 x2 x3 p27 ρ _ h
                            · by_cases c47 : x2 = (6 : Int32)
                              · refine ao_tableIn 472 dX12_statement_184 (by rw [c47]; decide) (by rw [c47]; decide) (by rw [c47]; rfl) (by decide) ?_
                                exact ih.2.2.2.2.2.2.2.2.2.2.2.2.2.2.2.2.2.2.2.2.2.2.2.2.2.2.2.2.2.1 e d MC MS hd r0 x1 x2 x3 p27 ρ _ h
                              · refine ao_tableOut 472 dX12_statement_184 (by have nc29 := ao_ne (z := 0) c29 (by decide); have nc32 := ao_ne (z := 2) c32 (by decide); have nc36 := ao_ne (z := 3) c36 (by decide); have nc37 := ao_ne (z := 7) c37 (by decide); have nc38 := ao_ne (z := 8) c38 (by decide); have nc39 := ao_ne (z := 9) c39 (by decide); have nc40 := ao_ne (z := 10) c40 (by decide); have nc44 := ao_ne (z := 1) c44 (by decide); have nc45 := ao_ne (z := 4) c45 (by decide); have nc46 := ao_ne (z := 5) c46 (by decide); have nc47 := ao_ne (z := 6) c47 (by decide); omega) (by decide) ?_
                                exact ih.2.2.2.2.2.2.2.2.2.2.2.2.2.2.2.2.2.2.2.2.2.2.2.2.2.2.2.2.2.1 e d MC MS hd r0 x1 x2 x3 p27 ρ _ h
        · replace h := ao_ifF h c28
          refine ao_aload_n 0 dX12_statement_146 rfl rfl ?_
          refine ao_bipush (v := 61) dX12_statement_147 (by decide) ?_
          obtain ⟨p48, hp48, h⟩ := ao_bind h
          refine cx_callVv r0 12 (q := (RX12, TX12, 83)) [.int (61 : Int32)] (aX12_need (d - 1) (by omega) n r0 (61 : Int32) p27 ρ hp48) dX12_statement_149 lc_X12_103 li_X12_need ls_X12_need rfl hk24 rfl rfl (Nat.le_of_ble_eq_true rfl) (ao_hR (by omega) (by decide)) (ao_leC (me_X12_need n r0 (61 : Int32) p27 ρ hp48) (ao_csM h (fun _ h => (mGB n).2.2.2.2.2.2.2.2.2.2.2.2.1 e r0 x1 x2 x3 p48.2.1 p48.2.2 _ h) (fun _ h => by cases h; exact ao_le_rf _))) (ao_leS (me_X12_need n r0 (61 : Int32) p27 ρ hp48) (ao_csM h (fun _ h => (mGB n).2.2.2.2.2.2.2.2.2.2.2.2.1 e r0 x1 x2 x3 p48.2.1 p48.2.2 _ h) (fun _ h => by cases h; exact ao_le_rf _))) (fun _ e49 => ?_) (fun _ e49 => ?_)
          · replace h := ao_csL h e49
            exact ih.2.2.2.2.2.2.2.2.2.2.2.2.1 e d MC MS hd r0 x1 x2 x3 p48.2.1 p48.2.2 _ h
          · replace h := ao_csR h e49
            cases h
            exact cx_out rfl ⟨rfl, rfl⟩
      · replace h := ao_ifT h c25
        refine ao_aload_n 0 dX12_statement_118 rfl rfl ?_
        refine ao_aload_n 0 dX12_statement_119 rfl rfl ?_
        refine an_getI r0 12 11 (q := (RX12, TX12, 83)) dX12_statement_120 rfl hk24 (Nat.le_of_ble_eq_true rfl) rfl lf_X12_39 ?_
        obtain ⟨p50, hp50, h⟩ := ao_bind h
        refine an_callVr r0 12 (q := (RX12, TX12, 83)) [.int (M r0 11)] (aX12_wrong (d - 1) (by omega) r0 (M r0 11) M ρ hp50) dX12_statement_123 lc_X12_70 li_X12_wrong ls_X12_wrong rfl hk24 rfl rfl (Nat.le_of_ble_eq_true rfl) (ao_hR (by omega) (by decide)) ?_
        obtain ⟨hk51, h⟩ := ao_some h
        cases h
        exact cx_athrow p50.1 11 (q := (RX11, TX11, 6)) dX12_statement_126 rfl hk51 rfl ⟨rfl, rfl⟩
    · intro e d MC MS hd r0 x1 x2 x3 M ρ y h
      replace h := ao_ifF h (by decide)
      replace h := ao_ifF h (by decide)
      replace h := ao_ifF h (by decide)
      replace h := ao_ifF h (by decide)
      replace h := ao_ifF h (by decide)
      replace h := ao_ifF h (by decide)
      replace h := ao_ifF h (by decide)
      replace h := ao_ifF h (by decide)
      replace h := ao_ifF h (by decide)
      replace h := ao_ifF h (by decide)
      replace h := ao_ifF h (by decide)
      replace h := ao_ifF h (by decide)
      replace h := ao_ifT h rfl
      refine ao_aload_n 0 dX12_statement_152 rfl rfl ?_
      obtain ⟨hk52, h⟩ := ao_some h
      obtain ⟨p53, hp53, h⟩ := ao_bind h
      refine cx_callVv r0 12 (q := (RX12, TX12, 83)) [] (aX12_expression (d - 1) (by omega) n r0 M ρ hp53) dX12_statement_153 lc_X12_100 li_X12_expression ls_X12_expression rfl hk52 rfl rfl (Nat.le_of_ble_eq_true rfl) (ao_hR (by omega) (by decide)) (ao_leC (me_X12_expression n r0 M ρ hp53) (ao_csM h (fun _ h => (mGB n).2.2.2.2.2.2.2.2.2.2.2.2.2.1 e r0 x1 x2 x3 p53.2.1 p53.2.2 _ h) (fun _ h => by cases h; exact ao_le_rf _))) (ao_leS (me_X12_expression n r0 M ρ hp53) (ao_csM h (fun _ h => (mGB n).2.2.2.2.2.2.2.2.2.2.2.2.2.1 e r0 x1 x2 x3 p53.2.1 p53.2.2 _ h) (fun _ h => by cases h; exact ao_le_rf _))) (fun _ e54 => ?_) (fun _ e54 => ?_)
      · replace h := ao_csL h e54
        exact ih.2.2.2.2.2.2.2.2.2.2.2.2.2.1 e d MC MS hd r0 x1 x2 x3 p53.2.1 p53.2.2 _ h
      · replace h := ao_csR h e54
        cases h
        exact cx_out rfl ⟨rfl, rfl⟩
    · intro e d MC MS hd r0 x1 x2 x3 M ρ y h
      replace h := ao_ifF h (by decide)
      replace h := ao_ifF h (by decide)
      replace h := ao_ifF h (by decide)
      replace h := ao_ifF h (by decide)
      replace h := ao_ifF h (by decide)
      replace h := ao_ifF h (by decide)
      replace h := ao_ifF h (by decide)
      replace h := ao_ifF h (by decide)
      replace h := ao_ifF h (by decide)
      replace h := ao_ifF h (by decide)
      replace h := ao_ifF h (by decide)
      replace h := ao_ifF h (by decide)
      replace h := ao_ifF h (by decide)
      replace h := ao_ifT h rfl
      refine ao_aload_n 0 dX12_statement_156 rfl rfl ?_
      refine ao_bipush (v := 59) dX12_statement_157 (by decide) ?_
      obtain ⟨hk55, h⟩ := ao_some h
      obtain ⟨p56, hp56, h⟩ := ao_bind h
      refine cx_callVv r0 12 (q := (RX12, TX12, 83)) [.int (59 : Int32)] (aX12_need (d - 1) (by omega) n r0 (59 : Int32) M ρ hp56) dX12_statement_159 lc_X12_103 li_X12_need ls_X12_need rfl hk55 rfl rfl (Nat.le_of_ble_eq_true rfl) (ao_hR (by omega) (by decide)) (ao_leC (me_X12_need n r0 (59 : Int32) M ρ hp56) (ao_csM h (fun _ h => (mGB n).2.2.2.2.2.2.2.2.2.2.2.2.2.2.1 e r0 x1 x2 x3 p56.2.1 p56.2.2 _ h) (fun _ h => by cases h; exact ao_le_rf _))) (ao_leS (me_X12_need n r0 (59 : Int32) M ρ hp56) (ao_csM h (fun _ h => (mGB n).2.2.2.2.2.2.2.2.2.2.2.2.2.2.1 e r0 x1 x2 x3 p56.2.1 p56.2.2 _ h) (fun _ h => by cases h; exact ao_le_rf _))) (fun _ e57 => ?_) (fun _ e57 => ?_)
      · replace h := ao_csL h e57
        exact ih.2.2.2.2.2.2.2.2.2.2.2.2.2.2.1 e d MC MS hd r0 x1 x2 x3 p56.2.1 p56.2.2 _ h
      · replace h := ao_csR h e57
        cases h
        exact cx_out rfl ⟨rfl, rfl⟩
    · intro e d MC MS hd r0 x1 x2 x3 M ρ y h
      replace h := ao_ifF h (by decide)
      replace h := ao_ifF h (by decide)
      replace h := ao_ifF h (by decide)
      replace h := ao_ifF h (by decide)
      replace h := ao_ifF h (by decide)
      replace h := ao_ifF h (by decide)
      replace h := ao_ifF h (by decide)
      replace h := ao_ifF h (by decide)
      replace h := ao_ifF h (by decide)
      replace h := ao_ifF h (by decide)
      replace h := ao_ifF h (by decide)
      replace h := ao_ifF h (by decide)
      replace h := ao_ifF h (by decide)
      replace h := ao_ifF h (by decide)
      replace h := ao_ifT h rfl
      refine ao_aload_n 0 dX12_statement_162 rfl rfl ?_
      refine ao_iload_n 1 dX12_statement_163 rfl rfl ?_
      refine ao_iconst (v := 1) dX12_statement_164 (by decide) ?_
      refine ao_icmp_ne 173 dX12_statement_165 (by decide) (fun c58 => ?_) (fun c58 => ?_)
      · replace h := ao_ifF h c58
        refine ao_bipush (v := 9) dX12_statement_173 (by decide) ?_
        exact ih.2.2.2.2.2.2.2.2.2.2.2.2.2.2.2.1 e d MC MS hd r0 x1 x2 x3 (9 : Int32) r0 M ρ _ h
      · replace h := ao_ifT h c58
        refine ao_bipush (v := 10) dX12_statement_168 (by decide) ?_
        refine ao_goto 175 dX12_statement_170 (by decide) ?_
        exact ih.2.2.2.2.2.2.2.2.2.2.2.2.2.2.2.1 e d MC MS hd r0 x1 x2 x3 (10 : Int32) r0 M ρ _ h
    · intro e d MC MS hd r0 x1 x2 x3 s0 q1 M ρ y h
      replace h := ao_ifF h (by decide)
      replace h := ao_ifF h (by decide)
      replace h := ao_ifF h (by decide)
      replace h := ao_ifF h (by decide)
      replace h := ao_ifF h (by decide)
      replace h := ao_ifF h (by decide)
      replace h := ao_ifF h (by decide)
      replace h := ao_ifF h (by decide)
      replace h := ao_ifF h (by decide)
      replace h := ao_ifF h (by decide)
      replace h := ao_ifF h (by decide)
      replace h := ao_ifF h (by decide)
      replace h := ao_ifF h (by decide)
      replace h := ao_ifF h (by decide)
      replace h := ao_ifF h (by decide)
      replace h := ao_ifT h rfl
      refine ao_iload_n 2 dX12_statement_175 rfl rfl ?_
      refine ao_iconst (v := 0) dX12_statement_176 (by decide) ?_
      obtain ⟨hk59, h⟩ := ao_some h
      obtain ⟨p60, hp60, h⟩ := ao_bind h
      refine an_callVi q1 12 (q := (RX12, TX12, 83)) [.int s0, .int x2, .int (0 : Int32)] (aX12_make (d - 1) (by omega) q1 s0 x2 (0 : Int32) M ρ hp60) dX12_statement_177 lc_X12_87 li_X12_make ls_X12_make rfl hk59 rfl rfl (Nat.le_of_ble_eq_true rfl) (ao_hR (by omega) (by decide)) ?_
      refine an_topi (fun v61 hv61 => ?_)
      replace h := ao_letD h hv61
      refine ao_istore 4 (lo' := [some (.ref (Γ.2.2.2 + r0)), some (.int x1), some (.int x2), some (.int x3), some (.int v61), none, none]) dX12_statement_180 (Nat.le_of_ble_eq_true rfl) rfl ?_
      cases h
      exact ao_return dX12_statement_182 rfl ⟨rfl, rfl⟩
    · intro e d MC MS hd r0 x1 x2 x3 M ρ y h
      replace h := ao_ifF h (by decide)
      replace h := ao_ifF h (by decide)
      replace h := ao_ifF h (by decide)
      replace h := ao_ifF h (by decide)
      replace h := ao_ifF h (by decide)
      replace h := ao_ifF h (by decide)
      replace h := ao_ifF h (by decide)
      replace h := ao_ifF h (by decide)
      replace h := ao_ifF h (by decide)
      replace h := ao_ifF h (by decide)
      replace h := ao_ifF h (by decide)
      replace h := ao_ifF h (by decide)
      replace h := ao_ifF h (by decide)
      replace h := ao_ifF h (by decide)
      replace h := ao_ifF h (by decide)
      replace h := ao_ifF h (by decide)
      replace h := ao_ifT h rfl
      refine ao_aload_n 0 dX12_statement_248 rfl rfl ?_
      refine ao_bipush (v := 11) dX12_statement_249 (by decide) ?_
      refine ao_iconst (v := 0) dX12_statement_251 (by decide) ?_
      refine ao_iconst (v := 0) dX12_statement_252 (by decide) ?_
      obtain ⟨hk62, h⟩ := ao_some h
      obtain ⟨p63, hp63, h⟩ := ao_bind h
      refine an_callVi r0 12 (q := (RX12, TX12, 83)) [.int (11 : Int32), .int (0 : Int32), .int (0 : Int32)] (aX12_make (d - 1) (by omega) r0 (11 : Int32) (0 : Int32) (0 : Int32) M ρ hp63) dX12_statement_253 lc_X12_87 li_X12_make ls_X12_make rfl hk62 rfl rfl (Nat.le_of_ble_eq_true rfl) (ao_hR (by omega) (by decide)) ?_
      refine an_topi (fun v64 hv64 => ?_)
      replace h := ao_letD h hv64
      refine ao_istore 5 (lo' := [some (.ref (Γ.2.2.2 + r0)), some (.int x1), some (.int x2), some (.int x3), none, some (.int v64), none]) dX12_statement_256 (Nat.le_of_ble_eq_true rfl) rfl ?_
      refine ao_aload_n 0 dX12_statement_258 rfl rfl ?_
      obtain ⟨he66, h⟩ := ao_some h
      obtain ⟨p65, hp65, h⟩ := ao_bind h
      have hAp65 : ao_A Γ uX12_block (d - 1) (ao_dc ρ p65.2.2) (ao_ds ρ p65.2.2) [.ref (Γ.2.2.2 + r0)] (p63.2, ρ) (ao_ZV p65) := by
        refine ao_of (by decide) (ao_cat1 (Nat.le_of_ble_eq_true rfl)) (Nat.le_of_ble_eq_true rfl) ?_
        show ao_W Γ uX12_block (ao_rm (d - 1) (ao_dc ρ p65.2.2) (ao_ds ρ p65.2.2)) (ao_Q Γ (ao_ZV p65) (ao_dc ρ p65.2.2) (ao_ds ρ p65.2.2)) (ao_dc ρ p65.2.2) (ao_ds ρ p65.2.2) 0 [some (.ref (Γ.2.2.2 + r0))] [] (p63.2, ρ)
        exact ih.1 (e - 1) (d - 1) _ _ (by omega) r0 p63.2 ρ _ hp65
      refine cx_callVv r0 12 (q := (RX12, TX12, 83)) [] hAp65 dX12_statement_259 lc_X12_119 li_X12_block ls_X12_block rfl hk62 rfl rfl (Nat.le_of_ble_eq_true rfl) (ao_hR (by omega) (by decide)) (ao_leC ((mGB n).1 (e - 1) r0 p63.2 ρ _ hp65) (ao_csM h (fun _ h => (mGB n).2.2.2.2.2.2.2.2.2.2.2.2.2.2.2.2.2.1 e r0 x1 x2 x3 v64 p65.2.1 p65.2.2 _ h) (fun _ h => by cases h; exact ao_le_rf _))) (ao_leS ((mGB n).1 (e - 1) r0 p63.2 ρ _ hp65) (ao_csM h (fun _ h => (mGB n).2.2.2.2.2.2.2.2.2.2.2.2.2.2.2.2.2.1 e r0 x1 x2 x3 v64 p65.2.1 p65.2.2 _ h) (fun _ h => by cases h; exact ao_le_rf _))) (fun _ e67 => ?_) (fun _ e67 => ?_)
      · replace h := ao_csL h e67
        exact ih.2.2.2.2.2.2.2.2.2.2.2.2.2.2.2.2.2.1 e d MC MS hd r0 x1 x2 x3 v64 p65.2.1 p65.2.2 _ h
      · replace h := ao_csR h e67
        cases h
        exact cx_out rfl ⟨rfl, rfl⟩
    · intro e d MC MS hd r0 x1 x2 x3 x5 M ρ y h
      replace h := ao_ifF h (by decide)
      replace h := ao_ifF h (by decide)
      replace h := ao_ifF h (by decide)
      replace h := ao_ifF h (by decide)
      replace h := ao_ifF h (by decide)
      replace h := ao_ifF h (by decide)
      replace h := ao_ifF h (by decide)
      replace h := ao_ifF h (by decide)
      replace h := ao_ifF h (by decide)
      replace h := ao_ifF h (by decide)
      replace h := ao_ifF h (by decide)
      replace h := ao_ifF h (by decide)
      replace h := ao_ifF h (by decide)
      replace h := ao_ifF h (by decide)
      replace h := ao_ifF h (by decide)
      replace h := ao_ifF h (by decide)
      replace h := ao_ifF h (by decide)
      replace h := ao_ifT h rfl
      refine ao_aload_n 0 dX12_statement_262 rfl rfl ?_
      refine ao_iconst (v := 1) dX12_statement_263 (by decide) ?_
      obtain ⟨hk68, h⟩ := ao_some h
      obtain ⟨p69, hp69, h⟩ := ao_bind h
      refine an_callVi r0 12 (q := (RX12, TX12, 83)) [.int (1 : Int32)] (aX12_isWord (d - 1) (by omega) r0 (1 : Int32) M ρ hp69) dX12_statement_264 lc_X12_122 li_X12_isWord ls_X12_isWord rfl hk68 rfl rfl (Nat.le_of_ble_eq_true rfl) (ao_hR (by omega) (by decide)) ?_
      refine ao_if_eq 321 dX12_statement_267 (by decide) (fun c70 => ?_) (fun c70 => ?_)
      · replace h := ao_ifT h c70
        refine ao_aload_n 0 dX12_statement_321 rfl rfl ?_
        obtain ⟨j71, hj71, h⟩ := ao_bind h
        refine an_getR r0 12 12 (q := (RX12, TX12, 83)) dX12_statement_322 rfl hk68 (Nat.le_of_ble_eq_true rfl) rfl lf_X12_74 hj71 ?_
        refine ao_iconst (v := 3) dX12_statement_325 (by decide) ?_
        refine ao_iload 5 dX12_statement_326 rfl ?_
        refine ao_imul dX12_statement_328 ?_
        refine ao_iconst (v := 1) dX12_statement_329 (by decide) ?_
        refine ao_iadd dX12_statement_330 ?_
        refine ao_aload_n 0 dX12_statement_331 rfl rfl ?_
        refine an_getI r0 12 13 (q := (RX12, TX12, 83)) dX12_statement_332 rfl hk68 (Nat.le_of_ble_eq_true rfl) rfl lf_X12_78 ?_
        obtain ⟨hk72, h⟩ := ao_some h
        obtain ⟨hb73, h⟩ := ao_some h
        refine an_iastore j71 dX12_statement_335 hk72 hb73 (fun M74 hM74 => ?_)
        replace h := ao_letD h hM74
        refine ao_goto 486 dX12_statement_336 (by decide) ?_
        refine ao_loForget (lo' := [some (.ref (Γ.2.2.2 + r0)), some (.int x1), some (.int x2), some (.int x3), none, none, none]) (ao_fgS (ao_fgS (ao_fgS (ao_fgS (ao_fgN (ao_fgN (ao_fgN ao_fgZ))))))) ?_
        exact ih.2.2.2.2.2.2.2.2.2.2.2.2.2.2.2.2.2.2.2.2.2.2.2.2.2.2.2.2.2.2.2.1 e d MC MS hd r0 x1 x2 x3 M74 ρ _ h
      · replace h := ao_ifF h c70
        refine ao_aload_n 0 dX12_statement_270 rfl rfl ?_
        obtain ⟨p75, hp75, h⟩ := ao_bind h
        refine an_callVv r0 12 (q := (RX12, TX12, 83)) [] (aX12_token (d - 1) (by omega) _ r0 p69.2 ρ hp75) dX12_statement_271 lc_X12_63 li_X12_token ls_X12_token rfl hk68 rfl rfl (Nat.le_of_ble_eq_true rfl) (ao_hR (by omega) (by decide)) ?_
        refine ao_aload_n 0 dX12_statement_274 rfl rfl ?_
        refine ao_bipush (v := 12) dX12_statement_275 (by decide) ?_
        refine ao_iconst (v := 0) dX12_statement_277 (by decide) ?_
        refine ao_iconst (v := 0) dX12_statement_278 (by decide) ?_
        obtain ⟨p76, hp76, h⟩ := ao_bind h
        refine an_callVi r0 12 (q := (RX12, TX12, 83)) [.int (12 : Int32), .int (0 : Int32), .int (0 : Int32)] (aX12_make (d - 1) (by omega) r0 (12 : Int32) (0 : Int32) (0 : Int32) p75 ρ hp76) dX12_statement_279 lc_X12_87 li_X12_make ls_X12_make rfl hk68 rfl rfl (Nat.le_of_ble_eq_true rfl) (ao_hR (by omega) (by decide)) ?_
        refine an_topi (fun v77 hv77 => ?_)
        replace h := ao_letD h hv77
        refine ao_istore 6 (lo' := [some (.ref (Γ.2.2.2 + r0)), some (.int x1), some (.int x2), some (.int x3), none, some (.int x5), some (.int v77)]) dX12_statement_282 (Nat.le_of_ble_eq_true rfl) rfl ?_
        refine ao_aload_n 0 dX12_statement_284 rfl rfl ?_
        obtain ⟨j78, hj78, h⟩ := ao_bind h
        refine an_getR r0 12 12 (q := (RX12, TX12, 83)) dX12_statement_285 rfl hk68 (Nat.le_of_ble_eq_true rfl) rfl lf_X12_74 hj78 ?_
        refine ao_iconst (v := 3) dX12_statement_288 (by decide) ?_
        refine ao_iload 5 dX12_statement_289 rfl ?_
        refine ao_imul dX12_statement_291 ?_
        refine ao_iconst (v := 1) dX12_statement_292 (by decide) ?_
        refine ao_iadd dX12_statement_293 ?_
        refine ao_aload_n 0 dX12_statement_294 rfl rfl ?_
        refine an_getI r0 12 13 (q := (RX12, TX12, 83)) dX12_statement_295 rfl hk68 (Nat.le_of_ble_eq_true rfl) rfl lf_X12_78 ?_
        obtain ⟨hk79, h⟩ := ao_some h
        obtain ⟨hb80, h⟩ := ao_some h
        refine an_iastore j78 dX12_statement_298 hk79 hb80 (fun M81 hM81 => ?_)
        replace h := ao_letD h hM81
        refine ao_aload_n 0 dX12_statement_299 rfl rfl ?_
        obtain ⟨he83, h⟩ := ao_some h
        obtain ⟨p82, hp82, h⟩ := ao_bind h
        have hAp82 : ao_A Γ uX12_block (d - 1) (ao_dc ρ p82.2.2) (ao_ds ρ p82.2.2) [.ref (Γ.2.2.2 + r0)] (M81, ρ) (ao_ZV p82) := by
          refine ao_of (by decide) (ao_cat1 (Nat.le_of_ble_eq_true rfl)) (Nat.le_of_ble_eq_true rfl) ?_
          show ao_W Γ uX12_block (ao_rm (d - 1) (ao_dc ρ p82.2.2) (ao_ds ρ p82.2.2)) (ao_Q Γ (ao_ZV p82) (ao_dc ρ p82.2.2) (ao_ds ρ p82.2.2)) (ao_dc ρ p82.2.2) (ao_ds ρ p82.2.2) 0 [some (.ref (Γ.2.2.2 + r0))] [] (M81, ρ)
          exact ih.1 (e - 1) (d - 1) _ _ (by omega) r0 M81 ρ _ hp82
        refine cx_callVv r0 12 (q := (RX12, TX12, 83)) [] hAp82 dX12_statement_300 lc_X12_119 li_X12_block ls_X12_block rfl hk68 rfl rfl (Nat.le_of_ble_eq_true rfl) (ao_hR (by omega) (by decide)) (ao_leC ((mGB n).1 (e - 1) r0 M81 ρ _ hp82) (ao_csM h (fun _ h => (mGB n).2.2.2.2.2.2.2.2.2.2.2.2.2.2.2.2.2.2.1 e r0 x1 x2 x3 x5 v77 p82.2.1 p82.2.2 _ h) (fun _ h => by cases h; exact ao_le_rf _))) (ao_leS ((mGB n).1 (e - 1) r0 M81 ρ _ hp82) (ao_csM h (fun _ h => (mGB n).2.2.2.2.2.2.2.2.2.2.2.2.2.2.2.2.2.2.1 e r0 x1 x2 x3 x5 v77 p82.2.1 p82.2.2 _ h) (fun _ h => by cases h; exact ao_le_rf _))) (fun _ e84 => ?_) (fun _ e84 => ?_)
        · replace h := ao_csL h e84
          exact ih.2.2.2.2.2.2.2.2.2.2.2.2.2.2.2.2.2.2.1 e d MC MS hd r0 x1 x2 x3 x5 v77 p82.2.1 p82.2.2 _ h
        · replace h := ao_csR h e84
          cases h
          exact cx_out rfl ⟨rfl, rfl⟩
    · intro e d MC MS hd r0 x1 x2 x3 x5 x6 M ρ y h
      replace h := ao_ifF h (by decide)
      replace h := ao_ifF h (by decide)
      replace h := ao_ifF h (by decide)
      replace h := ao_ifF h (by decide)
      replace h := ao_ifF h (by decide)
      replace h := ao_ifF h (by decide)
      replace h := ao_ifF h (by decide)
      replace h := ao_ifF h (by decide)
      replace h := ao_ifF h (by decide)
      replace h := ao_ifF h (by decide)
      replace h := ao_ifF h (by decide)
      replace h := ao_ifF h (by decide)
      replace h := ao_ifF h (by decide)
      replace h := ao_ifF h (by decide)
      replace h := ao_ifF h (by decide)
      replace h := ao_ifF h (by decide)
      replace h := ao_ifF h (by decide)
      replace h := ao_ifF h (by decide)
      replace h := ao_ifT h rfl
      refine ao_aload_n 0 dX12_statement_303 rfl rfl ?_
      obtain ⟨hk85, h⟩ := ao_some h
      obtain ⟨j86, hj86, h⟩ := ao_bind h
      refine an_getR r0 12 12 (q := (RX12, TX12, 83)) dX12_statement_304 rfl hk85 (Nat.le_of_ble_eq_true rfl) rfl lf_X12_74 hj86 ?_
      refine ao_iconst (v := 3) dX12_statement_307 (by decide) ?_
      refine ao_iload 6 dX12_statement_308 rfl ?_
      refine ao_imul dX12_statement_310 ?_
      refine ao_iconst (v := 1) dX12_statement_311 (by decide) ?_
      refine ao_iadd dX12_statement_312 ?_
      refine ao_aload_n 0 dX12_statement_313 rfl rfl ?_
      refine an_getI r0 12 13 (q := (RX12, TX12, 83)) dX12_statement_314 rfl hk85 (Nat.le_of_ble_eq_true rfl) rfl lf_X12_78 ?_
      obtain ⟨hk87, h⟩ := ao_some h
      obtain ⟨hb88, h⟩ := ao_some h
      refine an_iastore j86 dX12_statement_317 hk87 hb88 (fun M89 hM89 => ?_)
      replace h := ao_letD h hM89
      refine ao_goto 486 dX12_statement_318 (by decide) ?_
      refine ao_loForget (lo' := [some (.ref (Γ.2.2.2 + r0)), some (.int x1), some (.int x2), some (.int x3), none, none, none]) (ao_fgS (ao_fgS (ao_fgS (ao_fgS (ao_fgN (ao_fgN (ao_fgN ao_fgZ))))))) ?_
      exact ih.2.2.2.2.2.2.2.2.2.2.2.2.2.2.2.2.2.2.2.2.2.2.2.2.2.2.2.2.2.2.2.1 e d MC MS hd r0 x1 x2 x3 M89 ρ _ h
    · intro e d MC MS hd r0 x1 x2 x3 x5 M ρ y h
      replace h := ao_ifF h (by decide)
      replace h := ao_ifF h (by decide)
      replace h := ao_ifF h (by decide)
      replace h := ao_ifF h (by decide)
      replace h := ao_ifF h (by decide)
      replace h := ao_ifF h (by decide)
      replace h := ao_ifF h (by decide)
      replace h := ao_ifF h (by decide)
      replace h := ao_ifF h (by decide)
      replace h := ao_ifF h (by decide)
      replace h := ao_ifF h (by decide)
      replace h := ao_ifF h (by decide)
      replace h := ao_ifF h (by decide)
      replace h := ao_ifF h (by decide)
      replace h := ao_ifF h (by decide)
      replace h := ao_ifF h (by decide)
      replace h := ao_ifF h (by decide)
      replace h := ao_ifF h (by decide)
      replace h := ao_ifF h (by decide)
      replace h := ao_ifT h rfl
      refine ao_aload_n 0 dX12_statement_349 rfl rfl ?_
      refine ao_bipush (v := 11) dX12_statement_350 (by decide) ?_
      refine ao_iconst (v := 0) dX12_statement_352 (by decide) ?_
      refine ao_iconst (v := 0) dX12_statement_353 (by decide) ?_
      obtain ⟨hk90, h⟩ := ao_some h
      obtain ⟨p91, hp91, h⟩ := ao_bind h
      refine an_callVi r0 12 (q := (RX12, TX12, 83)) [.int (11 : Int32), .int (0 : Int32), .int (0 : Int32)] (aX12_make (d - 1) (by omega) r0 (11 : Int32) (0 : Int32) (0 : Int32) M ρ hp91) dX12_statement_354 lc_X12_87 li_X12_make ls_X12_make rfl hk90 rfl rfl (Nat.le_of_ble_eq_true rfl) (ao_hR (by omega) (by decide)) ?_
      refine an_topi (fun v92 hv92 => ?_)
      replace h := ao_letD h hv92
      refine ao_istore 6 (lo' := [some (.ref (Γ.2.2.2 + r0)), some (.int x1), some (.int x2), some (.int x3), none, some (.int x5), some (.int v92)]) dX12_statement_357 (Nat.le_of_ble_eq_true rfl) rfl ?_
      refine ao_aload_n 0 dX12_statement_359 rfl rfl ?_
      refine ao_bipush (v := 13) dX12_statement_360 (by decide) ?_
      refine ao_iconst (v := 0) dX12_statement_362 (by decide) ?_
      refine ao_iconst (v := 0) dX12_statement_363 (by decide) ?_
      obtain ⟨p93, hp93, h⟩ := ao_bind h
      refine an_callVi r0 12 (q := (RX12, TX12, 83)) [.int (13 : Int32), .int (0 : Int32), .int (0 : Int32)] (aX12_make (d - 1) (by omega) r0 (13 : Int32) (0 : Int32) (0 : Int32) p91.2 ρ hp93) dX12_statement_364 lc_X12_87 li_X12_make ls_X12_make rfl hk90 rfl rfl (Nat.le_of_ble_eq_true rfl) (ao_hR (by omega) (by decide)) ?_
      refine an_topi (fun v94 hv94 => ?_)
      replace h := ao_letD h hv94
      refine ao_istore 4 (lo' := [some (.ref (Γ.2.2.2 + r0)), some (.int x1), some (.int x2), some (.int x3), some (.int v94), some (.int x5), some (.int v92)]) dX12_statement_367 (Nat.le_of_ble_eq_true rfl) rfl ?_
      refine ao_aload_n 0 dX12_statement_369 rfl rfl ?_
      obtain ⟨he96, h⟩ := ao_some h
      obtain ⟨p95, hp95, h⟩ := ao_bind h
      have hAp95 : ao_A Γ uX12_block (d - 1) (ao_dc ρ p95.2.2) (ao_ds ρ p95.2.2) [.ref (Γ.2.2.2 + r0)] (p93.2, ρ) (ao_ZV p95) := by
        refine ao_of (by decide) (ao_cat1 (Nat.le_of_ble_eq_true rfl)) (Nat.le_of_ble_eq_true rfl) ?_
        show ao_W Γ uX12_block (ao_rm (d - 1) (ao_dc ρ p95.2.2) (ao_ds ρ p95.2.2)) (ao_Q Γ (ao_ZV p95) (ao_dc ρ p95.2.2) (ao_ds ρ p95.2.2)) (ao_dc ρ p95.2.2) (ao_ds ρ p95.2.2) 0 [some (.ref (Γ.2.2.2 + r0))] [] (p93.2, ρ)
        exact ih.1 (e - 1) (d - 1) _ _ (by omega) r0 p93.2 ρ _ hp95
      refine cx_callVv r0 12 (q := (RX12, TX12, 83)) [] hAp95 dX12_statement_370 lc_X12_119 li_X12_block ls_X12_block rfl hk90 rfl rfl (Nat.le_of_ble_eq_true rfl) (ao_hR (by omega) (by decide)) (ao_leC ((mGB n).1 (e - 1) r0 p93.2 ρ _ hp95) (ao_csM h (fun _ h => (mGB n).2.2.2.2.2.2.2.2.2.2.2.2.2.2.2.2.2.2.2.2.1 e r0 x1 x2 x3 v94 x5 v92 p95.2.1 p95.2.2 _ h) (fun _ h => by cases h; exact ao_le_rf _))) (ao_leS ((mGB n).1 (e - 1) r0 p93.2 ρ _ hp95) (ao_csM h (fun _ h => (mGB n).2.2.2.2.2.2.2.2.2.2.2.2.2.2.2.2.2.2.2.2.1 e r0 x1 x2 x3 v94 x5 v92 p95.2.1 p95.2.2 _ h) (fun _ h => by cases h; exact ao_le_rf _))) (fun _ e97 => ?_) (fun _ e97 => ?_)
      · replace h := ao_csL h e97
        exact ih.2.2.2.2.2.2.2.2.2.2.2.2.2.2.2.2.2.2.2.2.1 e d MC MS hd r0 x1 x2 x3 v94 x5 v92 p95.2.1 p95.2.2 _ h
      · replace h := ao_csR h e97
        cases h
        exact cx_out rfl ⟨rfl, rfl⟩
    · intro e d MC MS hd r0 x1 x2 x3 x4 x5 x6 M ρ y h
      replace h := ao_ifF h (by decide)
      replace h := ao_ifF h (by decide)
      replace h := ao_ifF h (by decide)
      replace h := ao_ifF h (by decide)
      replace h := ao_ifF h (by decide)
      replace h := ao_ifF h (by decide)
      replace h := ao_ifF h (by decide)
      replace h := ao_ifF h (by decide)
      replace h := ao_ifF h (by decide)
      replace h := ao_ifF h (by decide)
      replace h := ao_ifF h (by decide)
      replace h := ao_ifF h (by decide)
      replace h := ao_ifF h (by decide)
      replace h := ao_ifF h (by decide)
      replace h := ao_ifF h (by decide)
      replace h := ao_ifF h (by decide)
      replace h := ao_ifF h (by decide)
      replace h := ao_ifF h (by decide)
      replace h := ao_ifF h (by decide)
      replace h := ao_ifF h (by decide)
      replace h := ao_ifT h rfl
      refine ao_aload_n 0 dX12_statement_373 rfl rfl ?_
      refine ao_bipush (v := 12) dX12_statement_374 (by decide) ?_
      refine ao_iload 5 dX12_statement_376 rfl ?_
      refine ao_iconst (v := 0) dX12_statement_378 (by decide) ?_
      obtain ⟨hk98, h⟩ := ao_some h
      obtain ⟨p99, hp99, h⟩ := ao_bind h
      refine an_callVi r0 12 (q := (RX12, TX12, 83)) [.int (12 : Int32), .int x5, .int (0 : Int32)] (aX12_make (d - 1) (by omega) r0 (12 : Int32) x5 (0 : Int32) M ρ hp99) dX12_statement_379 lc_X12_87 li_X12_make ls_X12_make rfl hk98 rfl rfl (Nat.le_of_ble_eq_true rfl) (ao_hR (by omega) (by decide)) ?_
      refine an_topi (fun v100 hv100 => ?_)
      replace h := ao_letD h hv100
      refine ao_istore 4 (lo' := [some (.ref (Γ.2.2.2 + r0)), some (.int x1), some (.int x2), some (.int x3), some (.int v100), some (.int x5), some (.int x6)]) dX12_statement_382 (Nat.le_of_ble_eq_true rfl) rfl ?_
      refine ao_aload_n 0 dX12_statement_384 rfl rfl ?_
      obtain ⟨j101, hj101, h⟩ := ao_bind h
      refine an_getR r0 12 12 (q := (RX12, TX12, 83)) dX12_statement_385 rfl hk98 (Nat.le_of_ble_eq_true rfl) rfl lf_X12_74 hj101 ?_
      refine ao_iconst (v := 3) dX12_statement_388 (by decide) ?_
      refine ao_iload 6 dX12_statement_389 rfl ?_
      refine ao_imul dX12_statement_391 ?_
      refine ao_iconst (v := 1) dX12_statement_392 (by decide) ?_
      refine ao_iadd dX12_statement_393 ?_
      refine ao_aload_n 0 dX12_statement_394 rfl rfl ?_
      refine an_getI r0 12 13 (q := (RX12, TX12, 83)) dX12_statement_395 rfl hk98 (Nat.le_of_ble_eq_true rfl) rfl lf_X12_78 ?_
      obtain ⟨hk102, h⟩ := ao_some h
      obtain ⟨hb103, h⟩ := ao_some h
      refine an_iastore j101 dX12_statement_398 hk102 hb103 (fun M104 hM104 => ?_)
      replace h := ao_letD h hM104
      refine ao_goto 486 dX12_statement_399 (by decide) ?_
      refine ao_loForget (lo' := [some (.ref (Γ.2.2.2 + r0)), some (.int x1), some (.int x2), some (.int x3), none, none, none]) (ao_fgS (ao_fgS (ao_fgS (ao_fgS (ao_fgN (ao_fgN (ao_fgN ao_fgZ))))))) ?_
      exact ih.2.2.2.2.2.2.2.2.2.2.2.2.2.2.2.2.2.2.2.2.2.2.2.2.2.2.2.2.2.2.2.1 e d MC MS hd r0 x1 x2 x3 M104 ρ _ h
    · intro e d MC MS hd r0 x1 x2 x3 M ρ y h
      replace h := ao_ifF h (by decide)
      replace h := ao_ifF h (by decide)
      replace h := ao_ifF h (by decide)
      replace h := ao_ifF h (by decide)
      replace h := ao_ifF h (by decide)
      replace h := ao_ifF h (by decide)
      replace h := ao_ifF h (by decide)
      replace h := ao_ifF h (by decide)
      replace h := ao_ifF h (by decide)
      replace h := ao_ifF h (by decide)
      replace h := ao_ifF h (by decide)
      replace h := ao_ifF h (by decide)
      replace h := ao_ifF h (by decide)
      replace h := ao_ifF h (by decide)
      replace h := ao_ifF h (by decide)
      replace h := ao_ifF h (by decide)
      replace h := ao_ifF h (by decide)
      replace h := ao_ifF h (by decide)
      replace h := ao_ifF h (by decide)
      replace h := ao_ifF h (by decide)
      replace h := ao_ifF h (by decide)
      replace h := ao_ifT h rfl
      refine ao_aload_n 0 dX12_statement_402 rfl rfl ?_
      obtain ⟨hk105, h⟩ := ao_some h
      obtain ⟨p106, hp106, h⟩ := ao_bind h
      refine cx_callVv r0 12 (q := (RX12, TX12, 83)) [] (aX12_expression (d - 1) (by omega) n r0 M ρ hp106) dX12_statement_403 lc_X12_100 li_X12_expression ls_X12_expression rfl hk105 rfl rfl (Nat.le_of_ble_eq_true rfl) (ao_hR (by omega) (by decide)) (ao_leC (me_X12_expression n r0 M ρ hp106) (ao_csM h (fun _ h => (mGB n).2.2.2.2.2.2.2.2.2.2.2.2.2.2.2.2.2.2.2.2.2.2.1 e r0 x1 x2 x3 p106.2.1 p106.2.2 _ h) (fun _ h => by cases h; exact ao_le_rf _))) (ao_leS (me_X12_expression n r0 M ρ hp106) (ao_csM h (fun _ h => (mGB n).2.2.2.2.2.2.2.2.2.2.2.2.2.2.2.2.2.2.2.2.2.2.1 e r0 x1 x2 x3 p106.2.1 p106.2.2 _ h) (fun _ h => by cases h; exact ao_le_rf _))) (fun _ e107 => ?_) (fun _ e107 => ?_)
      · replace h := ao_csL h e107
        exact ih.2.2.2.2.2.2.2.2.2.2.2.2.2.2.2.2.2.2.2.2.2.2.1 e d MC MS hd r0 x1 x2 x3 p106.2.1 p106.2.2 _ h
      · replace h := ao_csR h e107
        cases h
        exact cx_out rfl ⟨rfl, rfl⟩
    · intro e d MC MS hd r0 x1 x2 x3 M ρ y h
      replace h := ao_ifF h (by decide)
      replace h := ao_ifF h (by decide)
      replace h := ao_ifF h (by decide)
      replace h := ao_ifF h (by decide)
      replace h := ao_ifF h (by decide)
      replace h := ao_ifF h (by decide)
      replace h := ao_ifF h (by decide)
      replace h := ao_ifF h (by decide)
      replace h := ao_ifF h (by decide)
      replace h := ao_ifF h (by decide)
      replace h := ao_ifF h (by decide)
      replace h := ao_ifF h (by decide)
      replace h := ao_ifF h (by decide)
      replace h := ao_ifF h (by decide)
      replace h := ao_ifF h (by decide)
      replace h := ao_ifF h (by decide)
      replace h := ao_ifF h (by decide)
      replace h := ao_ifF h (by decide)
      replace h := ao_ifF h (by decide)
      replace h := ao_ifF h (by decide)
      replace h := ao_ifF h (by decide)
      replace h := ao_ifF h (by decide)
      replace h := ao_ifT h rfl
      refine ao_aload_n 0 dX12_statement_406 rfl rfl ?_
      refine ao_bipush (v := 59) dX12_statement_407 (by decide) ?_
      obtain ⟨hk108, h⟩ := ao_some h
      obtain ⟨p109, hp109, h⟩ := ao_bind h
      refine cx_callVv r0 12 (q := (RX12, TX12, 83)) [.int (59 : Int32)] (aX12_need (d - 1) (by omega) n r0 (59 : Int32) M ρ hp109) dX12_statement_409 lc_X12_103 li_X12_need ls_X12_need rfl hk108 rfl rfl (Nat.le_of_ble_eq_true rfl) (ao_hR (by omega) (by decide)) (ao_leC (me_X12_need n r0 (59 : Int32) M ρ hp109) (ao_csM h (fun _ h => (mGB n).2.2.2.2.2.2.2.2.2.2.2.2.2.2.2.2.2.2.2.2.2.2.2.1 e r0 x1 x2 x3 p109.2.1 p109.2.2 _ h) (fun _ h => by cases h; exact ao_le_rf _))) (ao_leS (me_X12_need n r0 (59 : Int32) M ρ hp109) (ao_csM h (fun _ h => (mGB n).2.2.2.2.2.2.2.2.2.2.2.2.2.2.2.2.2.2.2.2.2.2.2.1 e r0 x1 x2 x3 p109.2.1 p109.2.2 _ h) (fun _ h => by cases h; exact ao_le_rf _))) (fun _ e110 => ?_) (fun _ e110 => ?_)
      · replace h := ao_csL h e110
        exact ih.2.2.2.2.2.2.2.2.2.2.2.2.2.2.2.2.2.2.2.2.2.2.2.1 e d MC MS hd r0 x1 x2 x3 p109.2.1 p109.2.2 _ h
      · replace h := ao_csR h e110
        cases h
        exact cx_out rfl ⟨rfl, rfl⟩
    · intro e d MC MS hd r0 x1 x2 x3 M ρ y h
      replace h := ao_ifF h (by decide)
      replace h := ao_ifF h (by decide)
      replace h := ao_ifF h (by decide)
      replace h := ao_ifF h (by decide)
      replace h := ao_ifF h (by decide)
      replace h := ao_ifF h (by decide)
      replace h := ao_ifF h (by decide)
      replace h := ao_ifF h (by decide)
      replace h := ao_ifF h (by decide)
      replace h := ao_ifF h (by decide)
      replace h := ao_ifF h (by decide)
      replace h := ao_ifF h (by decide)
      replace h := ao_ifF h (by decide)
      replace h := ao_ifF h (by decide)
      replace h := ao_ifF h (by decide)
      replace h := ao_ifF h (by decide)
      replace h := ao_ifF h (by decide)
      replace h := ao_ifF h (by decide)
      replace h := ao_ifF h (by decide)
      replace h := ao_ifF h (by decide)
      replace h := ao_ifF h (by decide)
      replace h := ao_ifF h (by decide)
      replace h := ao_ifF h (by decide)
      replace h := ao_ifT h rfl
      refine ao_aload_n 0 dX12_statement_412 rfl rfl ?_
      refine ao_iload_n 2 dX12_statement_413 rfl rfl ?_
      refine ao_iconst (v := 3) dX12_statement_414 (by decide) ?_
      refine ao_icmp_ne 423 dX12_statement_415 (by decide) (fun c111 => ?_) (fun c111 => ?_)
      · replace h := ao_ifF h c111
        refine ao_bipush (v := 19) dX12_statement_423 (by decide) ?_
        exact ih.2.2.2.2.2.2.2.2.2.2.2.2.2.2.2.2.2.2.2.2.2.2.2.2.1 e d MC MS hd r0 x1 x2 x3 (19 : Int32) r0 M ρ _ h
      · replace h := ao_ifT h c111
        refine ao_bipush (v := 14) dX12_statement_418 (by decide) ?_
        refine ao_goto 425 dX12_statement_420 (by decide) ?_
        exact ih.2.2.2.2.2.2.2.2.2.2.2.2.2.2.2.2.2.2.2.2.2.2.2.2.1 e d MC MS hd r0 x1 x2 x3 (14 : Int32) r0 M ρ _ h
    · intro e d MC MS hd r0 x1 x2 x3 s0 q1 M ρ y h
      replace h := ao_ifF h (by decide)
      replace h := ao_ifF h (by decide)
      replace h := ao_ifF h (by decide)
      replace h := ao_ifF h (by decide)
      replace h := ao_ifF h (by decide)
      replace h := ao_ifF h (by decide)
      replace h := ao_ifF h (by decide)
      replace h := ao_ifF h (by decide)
      replace h := ao_ifF h (by decide)
      replace h := ao_ifF h (by decide)
      replace h := ao_ifF h (by decide)
      replace h := ao_ifF h (by decide)
      replace h := ao_ifF h (by decide)
      replace h := ao_ifF h (by decide)
      replace h := ao_ifF h (by decide)
      replace h := ao_ifF h (by decide)
      replace h := ao_ifF h (by decide)
      replace h := ao_ifF h (by decide)
      replace h := ao_ifF h (by decide)
      replace h := ao_ifF h (by decide)
      replace h := ao_ifF h (by decide)
      replace h := ao_ifF h (by decide)
      replace h := ao_ifF h (by decide)
      replace h := ao_ifF h (by decide)
      replace h := ao_ifT h rfl
      refine ao_iconst (v := 0) dX12_statement_425 (by decide) ?_
      refine ao_iconst (v := 0) dX12_statement_426 (by decide) ?_
      obtain ⟨hk112, h⟩ := ao_some h
      obtain ⟨p113, hp113, h⟩ := ao_bind h
      refine an_callVi q1 12 (q := (RX12, TX12, 83)) [.int s0, .int (0 : Int32), .int (0 : Int32)] (aX12_make (d - 1) (by omega) q1 s0 (0 : Int32) (0 : Int32) M ρ hp113) dX12_statement_427 lc_X12_87 li_X12_make ls_X12_make rfl hk112 rfl rfl (Nat.le_of_ble_eq_true rfl) (ao_hR (by omega) (by decide)) ?_
      refine an_topi (fun v114 hv114 => ?_)
      replace h := ao_letD h hv114
      refine ao_istore 4 (lo' := [some (.ref (Γ.2.2.2 + r0)), some (.int x1), some (.int x2), some (.int x3), some (.int v114), none, none]) dX12_statement_430 (Nat.le_of_ble_eq_true rfl) rfl ?_
      refine ao_goto 486 dX12_statement_432 (by decide) ?_
      refine ao_loForget (lo' := [some (.ref (Γ.2.2.2 + r0)), some (.int x1), some (.int x2), some (.int x3), none, none, none]) (ao_fgS (ao_fgS (ao_fgS (ao_fgS (ao_fgN (ao_fgN (ao_fgN ao_fgZ))))))) ?_
      exact ih.2.2.2.2.2.2.2.2.2.2.2.2.2.2.2.2.2.2.2.2.2.2.2.2.2.2.2.2.2.2.2.1 e d MC MS hd r0 x1 x2 x3 p113.2 ρ _ h
    · intro e d MC MS hd r0 x1 x2 x3 M ρ y h
      replace h := ao_ifF h (by decide)
      replace h := ao_ifF h (by decide)
      replace h := ao_ifF h (by decide)
      replace h := ao_ifF h (by decide)
      replace h := ao_ifF h (by decide)
      replace h := ao_ifF h (by decide)
      replace h := ao_ifF h (by decide)
      replace h := ao_ifF h (by decide)
      replace h := ao_ifF h (by decide)
      replace h := ao_ifF h (by decide)
      replace h := ao_ifF h (by decide)
      replace h := ao_ifF h (by decide)
      replace h := ao_ifF h (by decide)
      replace h := ao_ifF h (by decide)
      replace h := ao_ifF h (by decide)
      replace h := ao_ifF h (by decide)
      replace h := ao_ifF h (by decide)
      replace h := ao_ifF h (by decide)
      replace h := ao_ifF h (by decide)
      replace h := ao_ifF h (by decide)
      replace h := ao_ifF h (by decide)
      replace h := ao_ifF h (by decide)
      replace h := ao_ifF h (by decide)
      replace h := ao_ifF h (by decide)
      replace h := ao_ifF h (by decide)
      replace h := ao_ifT h rfl
      refine ao_aload_n 0 dX12_statement_435 rfl rfl ?_
      refine ao_bipush (v := 59) dX12_statement_436 (by decide) ?_
      obtain ⟨hk115, h⟩ := ao_some h
      obtain ⟨p116, hp116, h⟩ := ao_bind h
      refine cx_callVv r0 12 (q := (RX12, TX12, 83)) [.int (59 : Int32)] (aX12_need (d - 1) (by omega) n r0 (59 : Int32) M ρ hp116) dX12_statement_438 lc_X12_103 li_X12_need ls_X12_need rfl hk115 rfl rfl (Nat.le_of_ble_eq_true rfl) (ao_hR (by omega) (by decide)) (ao_leC (me_X12_need n r0 (59 : Int32) M ρ hp116) (ao_csM h (fun _ h => (mGB n).2.2.2.2.2.2.2.2.2.2.2.2.2.2.2.2.2.2.2.2.2.2.2.2.2.2.1 e r0 x1 x2 x3 p116.2.1 p116.2.2 _ h) (fun _ h => by cases h; exact ao_le_rf _))) (ao_leS (me_X12_need n r0 (59 : Int32) M ρ hp116) (ao_csM h (fun _ h => (mGB n).2.2.2.2.2.2.2.2.2.2.2.2.2.2.2.2.2.2.2.2.2.2.2.2.2.2.1 e r0 x1 x2 x3 p116.2.1 p116.2.2 _ h) (fun _ h => by cases h; exact ao_le_rf _))) (fun _ e117 => ?_) (fun _ e117 => ?_)
      · replace h := ao_csL h e117
        exact ih.2.2.2.2.2.2.2.2.2.2.2.2.2.2.2.2.2.2.2.2.2.2.2.2.2.2.1 e d MC MS hd r0 x1 x2 x3 p116.2.1 p116.2.2 _ h
      · replace h := ao_csR h e117
        cases h
        exact cx_out rfl ⟨rfl, rfl⟩
    · intro e d MC MS hd r0 x1 x2 x3 M ρ y h
      replace h := ao_ifF h (by decide)
      replace h := ao_ifF h (by decide)
      replace h := ao_ifF h (by decide)
      replace h := ao_ifF h (by decide)
      replace h := ao_ifF h (by decide)
      replace h := ao_ifF h (by decide)
      replace h := ao_ifF h (by decide)
      replace h := ao_ifF h (by decide)
      replace h := ao_ifF h (by decide)
      replace h := ao_ifF h (by decide)
      replace h := ao_ifF h (by decide)
      replace h := ao_ifF h (by decide)
      replace h := ao_ifF h (by decide)
      replace h := ao_ifF h (by decide)
      replace h := ao_ifF h (by decide)
      replace h := ao_ifF h (by decide)
      replace h := ao_ifF h (by decide)
      replace h := ao_ifF h (by decide)
      replace h := ao_ifF h (by decide)
      replace h := ao_ifF h (by decide)
      replace h := ao_ifF h (by decide)
      replace h := ao_ifF h (by decide)
      replace h := ao_ifF h (by decide)
      replace h := ao_ifF h (by decide)
      replace h := ao_ifF h (by decide)
      replace h := ao_ifF h (by decide)
      replace h := ao_ifT h rfl
      refine ao_aload_n 0 dX12_statement_441 rfl rfl ?_
      refine ao_iload_n 2 dX12_statement_442 rfl rfl ?_
      refine ao_bipush (v := 7) dX12_statement_443 (by decide) ?_
      refine ao_icmp_ne 453 dX12_statement_445 (by decide) (fun c118 => ?_) (fun c118 => ?_)
      · replace h := ao_ifF h c118
        refine ao_bipush (v := 18) dX12_statement_453 (by decide) ?_
        exact ih.2.2.2.2.2.2.2.2.2.2.2.2.2.2.2.2.2.2.2.2.2.2.2.2.2.2.2.1 e d MC MS hd r0 x1 x2 x3 (18 : Int32) r0 M ρ _ h
      · replace h := ao_ifT h c118
        refine ao_bipush (v := 17) dX12_statement_448 (by decide) ?_
        refine ao_goto 455 dX12_statement_450 (by decide) ?_
        exact ih.2.2.2.2.2.2.2.2.2.2.2.2.2.2.2.2.2.2.2.2.2.2.2.2.2.2.2.1 e d MC MS hd r0 x1 x2 x3 (17 : Int32) r0 M ρ _ h
    · intro e d MC MS hd r0 x1 x2 x3 s0 q1 M ρ y h
      replace h := ao_ifF h (by decide)
      replace h := ao_ifF h (by decide)
      replace h := ao_ifF h (by decide)
      replace h := ao_ifF h (by decide)
      replace h := ao_ifF h (by decide)
      replace h := ao_ifF h (by decide)
      replace h := ao_ifF h (by decide)
      replace h := ao_ifF h (by decide)
      replace h := ao_ifF h (by decide)
      replace h := ao_ifF h (by decide)
      replace h := ao_ifF h (by decide)
      replace h := ao_ifF h (by decide)
      replace h := ao_ifF h (by decide)
      replace h := ao_ifF h (by decide)
      replace h := ao_ifF h (by decide)
      replace h := ao_ifF h (by decide)
      replace h := ao_ifF h (by decide)
      replace h := ao_ifF h (by decide)
      replace h := ao_ifF h (by decide)
      replace h := ao_ifF h (by decide)
      replace h := ao_ifF h (by decide)
      replace h := ao_ifF h (by decide)
      replace h := ao_ifF h (by decide)
      replace h := ao_ifF h (by decide)
      replace h := ao_ifF h (by decide)
      replace h := ao_ifF h (by decide)
      replace h := ao_ifF h (by decide)
      replace h := ao_ifT h rfl
      refine ao_iconst (v := 0) dX12_statement_455 (by decide) ?_
      refine ao_iconst (v := 0) dX12_statement_456 (by decide) ?_
      obtain ⟨hk119, h⟩ := ao_some h
      obtain ⟨p120, hp120, h⟩ := ao_bind h
      refine an_callVi q1 12 (q := (RX12, TX12, 83)) [.int s0, .int (0 : Int32), .int (0 : Int32)] (aX12_make (d - 1) (by omega) q1 s0 (0 : Int32) (0 : Int32) M ρ hp120) dX12_statement_457 lc_X12_87 li_X12_make ls_X12_make rfl hk119 rfl rfl (Nat.le_of_ble_eq_true rfl) (ao_hR (by omega) (by decide)) ?_
      refine an_topi (fun v121 hv121 => ?_)
      replace h := ao_letD h hv121
      refine ao_istore 4 (lo' := [some (.ref (Γ.2.2.2 + r0)), some (.int x1), some (.int x2), some (.int x3), some (.int v121), none, none]) dX12_statement_460 (Nat.le_of_ble_eq_true rfl) rfl ?_
      refine ao_goto 486 dX12_statement_462 (by decide) ?_
      refine ao_loForget (lo' := [some (.ref (Γ.2.2.2 + r0)), some (.int x1), some (.int x2), some (.int x3), none, none, none]) (ao_fgS (ao_fgS (ao_fgS (ao_fgS (ao_fgN (ao_fgN (ao_fgN ao_fgZ))))))) ?_
      exact ih.2.2.2.2.2.2.2.2.2.2.2.2.2.2.2.2.2.2.2.2.2.2.2.2.2.2.2.2.2.2.2.1 e d MC MS hd r0 x1 x2 x3 p120.2 ρ _ h
    · intro e d MC MS hd r0 x1 x2 x3 M ρ y h
      replace h := ao_ifF h (by decide)
      replace h := ao_ifF h (by decide)
      replace h := ao_ifF h (by decide)
      replace h := ao_ifF h (by decide)
      replace h := ao_ifF h (by decide)
      replace h := ao_ifF h (by decide)
      replace h := ao_ifF h (by decide)
      replace h := ao_ifF h (by decide)
      replace h := ao_ifF h (by decide)
      replace h := ao_ifF h (by decide)
      replace h := ao_ifF h (by decide)
      replace h := ao_ifF h (by decide)
      replace h := ao_ifF h (by decide)
      replace h := ao_ifF h (by decide)
      replace h := ao_ifF h (by decide)
      replace h := ao_ifF h (by decide)
      replace h := ao_ifF h (by decide)
      replace h := ao_ifF h (by decide)
      replace h := ao_ifF h (by decide)
      replace h := ao_ifF h (by decide)
      replace h := ao_ifF h (by decide)
      replace h := ao_ifF h (by decide)
      replace h := ao_ifF h (by decide)
      replace h := ao_ifF h (by decide)
      replace h := ao_ifF h (by decide)
      replace h := ao_ifF h (by decide)
      replace h := ao_ifF h (by decide)
      replace h := ao_ifF h (by decide)
      replace h := ao_ifT h rfl
      refine ao_goto 486 dX12_statement_469 (by decide) ?_
      exact ih.2.2.2.2.2.2.2.2.2.2.2.2.2.2.2.2.2.2.2.2.2.2.2.2.2.2.2.2.2.2.2.1 e d MC MS hd r0 x1 x2 x3 M ρ _ h
    · intro e d MC MS hd r0 x1 x2 x3 M ρ y h
      replace h := ao_ifF h (by decide)
      replace h := ao_ifF h (by decide)
      replace h := ao_ifF h (by decide)
      replace h := ao_ifF h (by decide)
      replace h := ao_ifF h (by decide)
      replace h := ao_ifF h (by decide)
      replace h := ao_ifF h (by decide)
      replace h := ao_ifF h (by decide)
      replace h := ao_ifF h (by decide)
      replace h := ao_ifF h (by decide)
      replace h := ao_ifF h (by decide)
      replace h := ao_ifF h (by decide)
      replace h := ao_ifF h (by decide)
      replace h := ao_ifF h (by decide)
      replace h := ao_ifF h (by decide)
      replace h := ao_ifF h (by decide)
      replace h := ao_ifF h (by decide)
      replace h := ao_ifF h (by decide)
      replace h := ao_ifF h (by decide)
      replace h := ao_ifF h (by decide)
      replace h := ao_ifF h (by decide)
      replace h := ao_ifF h (by decide)
      replace h := ao_ifF h (by decide)
      replace h := ao_ifF h (by decide)
      replace h := ao_ifF h (by decide)
      replace h := ao_ifF h (by decide)
      replace h := ao_ifF h (by decide)
      replace h := ao_ifF h (by decide)
      replace h := ao_ifF h (by decide)
      replace h := ao_ifT h rfl
      refine ao_aload_n 0 dX12_statement_472 rfl rfl ?_
      refine ao_iload_n 2 dX12_statement_473 rfl rfl ?_
      refine ao_iconst (v := 4) dX12_statement_474 (by decide) ?_
      refine ao_icmp_ne 482 dX12_statement_475 (by decide) (fun c122 => ?_) (fun c122 => ?_)
      · replace h := ao_ifF h c122
        refine ao_iconst (v := 0) dX12_statement_482 (by decide) ?_
        exact ih.2.2.2.2.2.2.2.2.2.2.2.2.2.2.2.2.2.2.2.2.2.2.2.2.2.2.2.2.2.2.1 e d MC MS hd r0 x1 x2 x3 (0 : Int32) r0 M ρ _ h
      · replace h := ao_ifT h c122
        refine ao_iconst (v := 1) dX12_statement_478 (by decide) ?_
        refine ao_goto 483 dX12_statement_479 (by decide) ?_
        exact ih.2.2.2.2.2.2.2.2.2.2.2.2.2.2.2.2.2.2.2.2.2.2.2.2.2.2.2.2.2.2.1 e d MC MS hd r0 x1 x2 x3 (1 : Int32) r0 M ρ _ h
    · intro e d MC MS hd r0 x1 x2 x3 s0 q1 M ρ y h
      replace h := ao_ifF h (by decide)
      replace h := ao_ifF h (by decide)
      replace h := ao_ifF h (by decide)
      replace h := ao_ifF h (by decide)
      replace h := ao_ifF h (by decide)
      replace h := ao_ifF h (by decide)
      replace h := ao_ifF h (by decide)
      replace h := ao_ifF h (by decide)
      replace h := ao_ifF h (by decide)
      replace h := ao_ifF h (by decide)
      replace h := ao_ifF h (by decide)
      replace h := ao_ifF h (by decide)
      replace h := ao_ifF h (by decide)
      replace h := ao_ifF h (by decide)
      replace h := ao_ifF h (by decide)
      replace h := ao_ifF h (by decide)
      replace h := ao_ifF h (by decide)
      replace h := ao_ifF h (by decide)
      replace h := ao_ifF h (by decide)
      replace h := ao_ifF h (by decide)
      replace h := ao_ifF h (by decide)
      replace h := ao_ifF h (by decide)
      replace h := ao_ifF h (by decide)
      replace h := ao_ifF h (by decide)
      replace h := ao_ifF h (by decide)
      replace h := ao_ifF h (by decide)
      replace h := ao_ifF h (by decide)
      replace h := ao_ifF h (by decide)
      replace h := ao_ifF h (by decide)
      replace h := ao_ifF h (by decide)
      replace h := ao_ifT h rfl
      obtain ⟨hk123, h⟩ := ao_some h
      obtain ⟨he125, h⟩ := ao_some h
      obtain ⟨p124, hp124, h⟩ := ao_bind h
      have hAp124 : ao_A Γ uX12_atom (d - 1) (ao_dc ρ p124.2.2) (ao_ds ρ p124.2.2) [.ref (Γ.2.2.2 + q1), .int s0] (M, ρ) (ao_ZV p124) := by
        refine ao_of (by decide) (ao_cat1 (Nat.le_of_ble_eq_true rfl)) (Nat.le_of_ble_eq_true rfl) ?_
        show ao_W Γ uX12_atom (ao_rm (d - 1) (ao_dc ρ p124.2.2) (ao_ds ρ p124.2.2)) (ao_Q Γ (ao_ZV p124) (ao_dc ρ p124.2.2) (ao_ds ρ p124.2.2)) (ao_dc ρ p124.2.2) (ao_ds ρ p124.2.2) 0 [some (.ref (Γ.2.2.2 + q1)), some (.int s0), none, none, none, none] [] (M, ρ)
        exact ih.2.2.2.2.2.2.2.2.2.2.2.2.2.2.2.2.2.2.2.2.2.2.2.2.2.2.2.2.2.2.2.2.2.2.2.1 (e - 1) (d - 1) _ _ (by omega) q1 s0 M ρ _ hp124
      refine cx_callVv q1 12 (q := (RX12, TX12, 83)) [.int s0] hAp124 dX12_statement_483 lc_X12_128 li_X12_atom ls_X12_atom rfl hk123 rfl rfl (Nat.le_of_ble_eq_true rfl) (ao_hR (by omega) (by decide)) (ao_leC ((mGB n).2.2.2.2.2.2.2.2.2.2.2.2.2.2.2.2.2.2.2.2.2.2.2.2.2.2.2.2.2.2.2.2.2.2.2.1 (e - 1) q1 s0 M ρ _ hp124) (ao_csM h (fun _ h => (mGB n).2.2.2.2.2.2.2.2.2.2.2.2.2.2.2.2.2.2.2.2.2.2.2.2.2.2.2.2.2.2.2.1 e r0 x1 x2 x3 p124.2.1 p124.2.2 _ h) (fun _ h => by cases h; exact ao_le_rf _))) (ao_leS ((mGB n).2.2.2.2.2.2.2.2.2.2.2.2.2.2.2.2.2.2.2.2.2.2.2.2.2.2.2.2.2.2.2.2.2.2.2.1 (e - 1) q1 s0 M ρ _ hp124) (ao_csM h (fun _ h => (mGB n).2.2.2.2.2.2.2.2.2.2.2.2.2.2.2.2.2.2.2.2.2.2.2.2.2.2.2.2.2.2.2.1 e r0 x1 x2 x3 p124.2.1 p124.2.2 _ h) (fun _ h => by cases h; exact ao_le_rf _))) (fun _ e126 => ?_) (fun _ e126 => ?_)
      · replace h := ao_csL h e126
        exact ih.2.2.2.2.2.2.2.2.2.2.2.2.2.2.2.2.2.2.2.2.2.2.2.2.2.2.2.2.2.2.2.1 e d MC MS hd r0 x1 x2 x3 p124.2.1 p124.2.2 _ h
      · replace h := ao_csR h e126
        cases h
        exact cx_out rfl ⟨rfl, rfl⟩
    · intro e d MC MS hd r0 x1 x2 x3 M ρ y h
      replace h := ao_ifF h (by decide)
      replace h := ao_ifF h (by decide)
      replace h := ao_ifF h (by decide)
      replace h := ao_ifF h (by decide)
      replace h := ao_ifF h (by decide)
      replace h := ao_ifF h (by decide)
      replace h := ao_ifF h (by decide)
      replace h := ao_ifF h (by decide)
      replace h := ao_ifF h (by decide)
      replace h := ao_ifF h (by decide)
      replace h := ao_ifF h (by decide)
      replace h := ao_ifF h (by decide)
      replace h := ao_ifF h (by decide)
      replace h := ao_ifF h (by decide)
      replace h := ao_ifF h (by decide)
      replace h := ao_ifF h (by decide)
      replace h := ao_ifF h (by decide)
      replace h := ao_ifF h (by decide)
      replace h := ao_ifF h (by decide)
      replace h := ao_ifF h (by decide)
      replace h := ao_ifF h (by decide)
      replace h := ao_ifF h (by decide)
      replace h := ao_ifF h (by decide)
      replace h := ao_ifF h (by decide)
      replace h := ao_ifF h (by decide)
      replace h := ao_ifF h (by decide)
      replace h := ao_ifF h (by decide)
      replace h := ao_ifF h (by decide)
      replace h := ao_ifF h (by decide)
      replace h := ao_ifF h (by decide)
      replace h := ao_ifF h (by decide)
      replace h := ao_ifT h rfl
      cases h
      exact ao_return dX12_statement_486 rfl ⟨rfl, rfl⟩
    · intro e d MC MS hd r0 M ρ y h
      replace h := ao_ifF h (by decide)
      replace h := ao_ifF h (by decide)
      replace h := ao_ifF h (by decide)
      replace h := ao_ifF h (by decide)
      replace h := ao_ifF h (by decide)
      replace h := ao_ifF h (by decide)
      replace h := ao_ifF h (by decide)
      replace h := ao_ifF h (by decide)
      replace h := ao_ifF h (by decide)
      replace h := ao_ifF h (by decide)
      replace h := ao_ifF h (by decide)
      replace h := ao_ifF h (by decide)
      replace h := ao_ifF h (by decide)
      replace h := ao_ifF h (by decide)
      replace h := ao_ifF h (by decide)
      replace h := ao_ifF h (by decide)
      replace h := ao_ifF h (by decide)
      replace h := ao_ifF h (by decide)
      replace h := ao_ifF h (by decide)
      replace h := ao_ifF h (by decide)
      replace h := ao_ifF h (by decide)
      replace h := ao_ifF h (by decide)
      replace h := ao_ifF h (by decide)
      replace h := ao_ifF h (by decide)
      replace h := ao_ifF h (by decide)
      replace h := ao_ifF h (by decide)
      replace h := ao_ifF h (by decide)
      replace h := ao_ifF h (by decide)
      replace h := ao_ifF h (by decide)
      replace h := ao_ifF h (by decide)
      replace h := ao_ifF h (by decide)
      replace h := ao_ifF h (by decide)
      replace h := ao_ifT h rfl
      refine ao_aload_n 0 dX12_tried_0 rfl rfl ?_
      refine ao_bipush (v := 20) dX12_tried_1 (by decide) ?_
      refine ao_iconst (v := 0) dX12_tried_3 (by decide) ?_
      refine ao_iconst (v := 0) dX12_tried_4 (by decide) ?_
      obtain ⟨hk1, h⟩ := ao_some h
      obtain ⟨p2, hp2, h⟩ := ao_bind h
      refine an_callVi r0 12 (q := (RX12, TX12, 83)) [.int (20 : Int32), .int (0 : Int32), .int (0 : Int32)] (aX12_make (d - 1) (by omega) r0 (20 : Int32) (0 : Int32) (0 : Int32) M ρ hp2) dX12_tried_5 lc_X12_87 li_X12_make ls_X12_make rfl hk1 rfl rfl (Nat.le_of_ble_eq_true rfl) (ao_hR (by omega) (by decide)) ?_
      refine an_topi (fun v3 hv3 => ?_)
      replace h := ao_letD h hv3
      refine ao_istore_n 1 (lo' := [some (.ref (Γ.2.2.2 + r0)), some (.int v3), none, none]) dX12_tried_8 rfl (Nat.le_of_ble_eq_true rfl) rfl ?_
      refine ao_aload_n 0 dX12_tried_9 rfl rfl ?_
      obtain ⟨he5, h⟩ := ao_some h
      obtain ⟨p4, hp4, h⟩ := ao_bind h
      have hAp4 : ao_A Γ uX12_block (d - 1) (ao_dc ρ p4.2.2) (ao_ds ρ p4.2.2) [.ref (Γ.2.2.2 + r0)] (p2.2, ρ) (ao_ZV p4) := by
        refine ao_of (by decide) (ao_cat1 (Nat.le_of_ble_eq_true rfl)) (Nat.le_of_ble_eq_true rfl) ?_
        show ao_W Γ uX12_block (ao_rm (d - 1) (ao_dc ρ p4.2.2) (ao_ds ρ p4.2.2)) (ao_Q Γ (ao_ZV p4) (ao_dc ρ p4.2.2) (ao_ds ρ p4.2.2)) (ao_dc ρ p4.2.2) (ao_ds ρ p4.2.2) 0 [some (.ref (Γ.2.2.2 + r0))] [] (p2.2, ρ)
        exact ih.1 (e - 1) (d - 1) _ _ (by omega) r0 p2.2 ρ _ hp4
      refine cx_callVv r0 12 (q := (RX12, TX12, 83)) [] hAp4 dX12_tried_10 lc_X12_119 li_X12_block ls_X12_block rfl hk1 rfl rfl (Nat.le_of_ble_eq_true rfl) (ao_hR (by omega) (by decide)) (ao_leC ((mGB n).1 (e - 1) r0 p2.2 ρ _ hp4) (ao_csM h (fun _ h => (mGB n).2.2.2.2.2.2.2.2.2.2.2.2.2.2.2.2.2.2.2.2.2.2.2.2.2.2.2.2.2.2.2.2.2.1 e r0 v3 p4.2.1 p4.2.2 _ h) (fun _ h => by cases h; exact ao_le_rf _))) (ao_leS ((mGB n).1 (e - 1) r0 p2.2 ρ _ hp4) (ao_csM h (fun _ h => (mGB n).2.2.2.2.2.2.2.2.2.2.2.2.2.2.2.2.2.2.2.2.2.2.2.2.2.2.2.2.2.2.2.2.2.1 e r0 v3 p4.2.1 p4.2.2 _ h) (fun _ h => by cases h; exact ao_le_rf _))) (fun _ e6 => ?_) (fun _ e6 => ?_)
      · replace h := ao_csL h e6
        exact ih.2.2.2.2.2.2.2.2.2.2.2.2.2.2.2.2.2.2.2.2.2.2.2.2.2.2.2.2.2.2.2.2.2.1 e d MC MS hd r0 v3 p4.2.1 p4.2.2 _ h
      · replace h := ao_csR h e6
        cases h
        exact cx_out rfl ⟨rfl, rfl⟩
    · intro e d MC MS hd r0 x1 M ρ y h
      replace h := ao_ifF h (by decide)
      replace h := ao_ifF h (by decide)
      replace h := ao_ifF h (by decide)
      replace h := ao_ifF h (by decide)
      replace h := ao_ifF h (by decide)
      replace h := ao_ifF h (by decide)
      replace h := ao_ifF h (by decide)
      replace h := ao_ifF h (by decide)
      replace h := ao_ifF h (by decide)
      replace h := ao_ifF h (by decide)
      replace h := ao_ifF h (by decide)
      replace h := ao_ifF h (by decide)
      replace h := ao_ifF h (by decide)
      replace h := ao_ifF h (by decide)
      replace h := ao_ifF h (by decide)
      replace h := ao_ifF h (by decide)
      replace h := ao_ifF h (by decide)
      replace h := ao_ifF h (by decide)
      replace h := ao_ifF h (by decide)
      replace h := ao_ifF h (by decide)
      replace h := ao_ifF h (by decide)
      replace h := ao_ifF h (by decide)
      replace h := ao_ifF h (by decide)
      replace h := ao_ifF h (by decide)
      replace h := ao_ifF h (by decide)
      replace h := ao_ifF h (by decide)
      replace h := ao_ifF h (by decide)
      replace h := ao_ifF h (by decide)
      replace h := ao_ifF h (by decide)
      replace h := ao_ifF h (by decide)
      replace h := ao_ifF h (by decide)
      replace h := ao_ifF h (by decide)
      replace h := ao_ifF h (by decide)
      replace h := ao_ifT h rfl
      refine ao_aload_n 0 dX12_tried_13 rfl rfl ?_
      refine ao_bipush (v := 21) dX12_tried_14 (by decide) ?_
      refine ao_iconst (v := 0) dX12_tried_16 (by decide) ?_
      refine ao_iconst (v := 0) dX12_tried_17 (by decide) ?_
      obtain ⟨hk7, h⟩ := ao_some h
      obtain ⟨p8, hp8, h⟩ := ao_bind h
      refine an_callVi r0 12 (q := (RX12, TX12, 83)) [.int (21 : Int32), .int (0 : Int32), .int (0 : Int32)] (aX12_make (d - 1) (by omega) r0 (21 : Int32) (0 : Int32) (0 : Int32) M ρ hp8) dX12_tried_18 lc_X12_87 li_X12_make ls_X12_make rfl hk7 rfl rfl (Nat.le_of_ble_eq_true rfl) (ao_hR (by omega) (by decide)) ?_
      refine an_topi (fun v9 hv9 => ?_)
      replace h := ao_letD h hv9
      refine ao_istore_n 2 (lo' := [some (.ref (Γ.2.2.2 + r0)), some (.int x1), some (.int v9), none]) dX12_tried_21 rfl (Nat.le_of_ble_eq_true rfl) rfl ?_
      refine ao_aload_n 0 dX12_tried_22 rfl rfl ?_
      refine ao_bipush (v := 12) dX12_tried_23 (by decide) ?_
      refine ao_iconst (v := 0) dX12_tried_25 (by decide) ?_
      refine ao_iconst (v := 0) dX12_tried_26 (by decide) ?_
      obtain ⟨p10, hp10, h⟩ := ao_bind h
      refine an_callVi r0 12 (q := (RX12, TX12, 83)) [.int (12 : Int32), .int (0 : Int32), .int (0 : Int32)] (aX12_make (d - 1) (by omega) r0 (12 : Int32) (0 : Int32) (0 : Int32) p8.2 ρ hp10) dX12_tried_27 lc_X12_87 li_X12_make ls_X12_make rfl hk7 rfl rfl (Nat.le_of_ble_eq_true rfl) (ao_hR (by omega) (by decide)) ?_
      refine an_topi (fun v11 hv11 => ?_)
      replace h := ao_letD h hv11
      refine ao_istore_n 3 (lo' := [some (.ref (Γ.2.2.2 + r0)), some (.int x1), some (.int v9), some (.int v11)]) dX12_tried_30 rfl (Nat.le_of_ble_eq_true rfl) rfl ?_
      refine ao_aload_n 0 dX12_tried_31 rfl rfl ?_
      refine ao_bipush (v := 11) dX12_tried_32 (by decide) ?_
      obtain ⟨p12, hp12, h⟩ := ao_bind h
      refine an_callVi r0 12 (q := (RX12, TX12, 83)) [.int (11 : Int32)] (aX12_isWord (d - 1) (by omega) r0 (11 : Int32) p10.2 ρ hp12) dX12_tried_34 lc_X12_122 li_X12_isWord ls_X12_isWord rfl hk7 rfl rfl (Nat.le_of_ble_eq_true rfl) (ao_hR (by omega) (by decide)) ?_
      refine ao_if_ne 49 dX12_tried_37 (by decide) (fun c13 => ?_) (fun c13 => ?_)
      · replace h := ao_ifF h c13
        refine ao_aload_n 0 dX12_tried_49 rfl rfl ?_
        obtain ⟨p14, hp14, h⟩ := ao_bind h
        refine an_callVv r0 12 (q := (RX12, TX12, 83)) [] (aX12_token (d - 1) (by omega) _ r0 p12.2 ρ hp14) dX12_tried_50 lc_X12_63 li_X12_token ls_X12_token rfl hk7 rfl rfl (Nat.le_of_ble_eq_true rfl) (ao_hR (by omega) (by decide)) ?_
        refine ao_aload_n 0 dX12_tried_53 rfl rfl ?_
        refine an_getI r0 12 9 (q := (RX12, TX12, 83)) dX12_tried_54 rfl hk7 (Nat.le_of_ble_eq_true rfl) rfl lf_X12_42 ?_
        refine ao_iconst (v := 2) dX12_tried_57 (by decide) ?_
        refine ao_icmp_eq 70 dX12_tried_58 (by decide) (fun c15 => ?_) (fun c15 => ?_)
        · replace h := ao_ifT h c15
          refine ao_aload_n 0 dX12_tried_70 rfl rfl ?_
          obtain ⟨j16, hj16, h⟩ := ao_bind h
          refine an_getR r0 12 12 (q := (RX12, TX12, 83)) dX12_tried_71 rfl hk7 (Nat.le_of_ble_eq_true rfl) rfl lf_X12_74 hj16 ?_
          refine ao_iconst (v := 3) dX12_tried_74 (by decide) ?_
          refine ao_iload_n 1 dX12_tried_75 rfl rfl ?_
          refine ao_imul dX12_tried_76 ?_
          refine ao_iconst (v := 2) dX12_tried_77 (by decide) ?_
          refine ao_iadd dX12_tried_78 ?_
          refine ao_aload_n 0 dX12_tried_79 rfl rfl ?_
          refine an_getI r0 12 10 (q := (RX12, TX12, 83)) dX12_tried_80 rfl hk7 (Nat.le_of_ble_eq_true rfl) rfl lf_X12_49 ?_
          obtain ⟨hk17, h⟩ := ao_some h
          obtain ⟨hb18, h⟩ := ao_some h
          refine an_iastore j16 dX12_tried_83 hk17 hb18 (fun M19 hM19 => ?_)
          replace h := ao_letD h hM19
          refine ao_aload_n 0 dX12_tried_84 rfl rfl ?_
          obtain ⟨p20, hp20, h⟩ := ao_bind h
          refine an_callVv r0 12 (q := (RX12, TX12, 83)) [] (aX12_token (d - 1) (by omega) _ r0 M19 ρ hp20) dX12_tried_85 lc_X12_63 li_X12_token ls_X12_token rfl hk7 rfl rfl (Nat.le_of_ble_eq_true rfl) (ao_hR (by omega) (by decide)) ?_
          refine ao_aload_n 0 dX12_tried_88 rfl rfl ?_
          refine an_getR r0 12 12 (q := (RX12, TX12, 83)) dX12_tried_89 rfl hk7 (Nat.le_of_ble_eq_true rfl) rfl lf_X12_74 hj16 ?_
          refine ao_iconst (v := 3) dX12_tried_92 (by decide) ?_
          refine ao_iload_n 1 dX12_tried_93 rfl rfl ?_
          refine ao_imul dX12_tried_94 ?_
          refine ao_iconst (v := 1) dX12_tried_95 (by decide) ?_
          refine ao_iadd dX12_tried_96 ?_
          refine ao_aload_n 0 dX12_tried_97 rfl rfl ?_
          refine an_getI r0 12 13 (q := (RX12, TX12, 83)) dX12_tried_98 rfl hk7 (Nat.le_of_ble_eq_true rfl) rfl lf_X12_78 ?_
          obtain ⟨hb21, h⟩ := ao_some h
          refine an_iastore j16 dX12_tried_101 hk17 hb21 (fun M22 hM22 => ?_)
          replace h := ao_letD h hM22
          refine ao_aload_n 0 dX12_tried_102 rfl rfl ?_
          obtain ⟨he24, h⟩ := ao_some h
          obtain ⟨p23, hp23, h⟩ := ao_bind h
          have hAp23 : ao_A Γ uX12_block (d - 1) (ao_dc ρ p23.2.2) (ao_ds ρ p23.2.2) [.ref (Γ.2.2.2 + r0)] (M22, ρ) (ao_ZV p23) := by
            refine ao_of (by decide) (ao_cat1 (Nat.le_of_ble_eq_true rfl)) (Nat.le_of_ble_eq_true rfl) ?_
            show ao_W Γ uX12_block (ao_rm (d - 1) (ao_dc ρ p23.2.2) (ao_ds ρ p23.2.2)) (ao_Q Γ (ao_ZV p23) (ao_dc ρ p23.2.2) (ao_ds ρ p23.2.2)) (ao_dc ρ p23.2.2) (ao_ds ρ p23.2.2) 0 [some (.ref (Γ.2.2.2 + r0))] [] (M22, ρ)
            exact ih.1 (e - 1) (d - 1) _ _ (by omega) r0 M22 ρ _ hp23
          refine cx_callVv r0 12 (q := (RX12, TX12, 83)) [] hAp23 dX12_tried_103 lc_X12_119 li_X12_block ls_X12_block rfl hk7 rfl rfl (Nat.le_of_ble_eq_true rfl) (ao_hR (by omega) (by decide)) (ao_leC ((mGB n).1 (e - 1) r0 M22 ρ _ hp23) (ao_csM h (fun _ h => (mGB n).2.2.2.2.2.2.2.2.2.2.2.2.2.2.2.2.2.2.2.2.2.2.2.2.2.2.2.2.2.2.2.2.2.2.1 e r0 x1 v9 v11 p23.2.1 p23.2.2 _ h) (fun _ h => by cases h; exact ao_le_rf _))) (ao_leS ((mGB n).1 (e - 1) r0 M22 ρ _ hp23) (ao_csM h (fun _ h => (mGB n).2.2.2.2.2.2.2.2.2.2.2.2.2.2.2.2.2.2.2.2.2.2.2.2.2.2.2.2.2.2.2.2.2.2.1 e r0 x1 v9 v11 p23.2.1 p23.2.2 _ h) (fun _ h => by cases h; exact ao_le_rf _))) (fun _ e25 => ?_) (fun _ e25 => ?_)
          · replace h := ao_csL h e25
            exact ih.2.2.2.2.2.2.2.2.2.2.2.2.2.2.2.2.2.2.2.2.2.2.2.2.2.2.2.2.2.2.2.2.2.2.1 e d MC MS hd r0 x1 v9 v11 p23.2.1 p23.2.2 _ h
          · replace h := ao_csR h e25
            cases h
            exact cx_out rfl ⟨rfl, rfl⟩
        · replace h := ao_ifF h c15
          refine ao_aload_n 0 dX12_tried_61 rfl rfl ?_
          refine ao_aload_n 0 dX12_tried_62 rfl rfl ?_
          refine an_getI r0 12 11 (q := (RX12, TX12, 83)) dX12_tried_63 rfl hk7 (Nat.le_of_ble_eq_true rfl) rfl lf_X12_39 ?_
          obtain ⟨p26, hp26, h⟩ := ao_bind h
          refine an_callVr r0 12 (q := (RX12, TX12, 83)) [.int (p14 r0 11)] (aX12_wrong (d - 1) (by omega) r0 (p14 r0 11) p14 ρ hp26) dX12_tried_66 lc_X12_70 li_X12_wrong ls_X12_wrong rfl hk7 rfl rfl (Nat.le_of_ble_eq_true rfl) (ao_hR (by omega) (by decide)) ?_
          obtain ⟨hk27, h⟩ := ao_some h
          cases h
          exact cx_athrow p26.1 11 (q := (RX11, TX11, 6)) dX12_tried_69 rfl hk27 rfl ⟨rfl, rfl⟩
      · replace h := ao_ifT h c13
        refine ao_aload_n 0 dX12_tried_40 rfl rfl ?_
        refine ao_aload_n 0 dX12_tried_41 rfl rfl ?_
        refine an_getI r0 12 11 (q := (RX12, TX12, 83)) dX12_tried_42 rfl hk7 (Nat.le_of_ble_eq_true rfl) rfl lf_X12_39 ?_
        obtain ⟨p28, hp28, h⟩ := ao_bind h
        refine an_callVr r0 12 (q := (RX12, TX12, 83)) [.int (p12.2 r0 11)] (aX12_wrong (d - 1) (by omega) r0 (p12.2 r0 11) p12.2 ρ hp28) dX12_tried_45 lc_X12_70 li_X12_wrong ls_X12_wrong rfl hk7 rfl rfl (Nat.le_of_ble_eq_true rfl) (ao_hR (by omega) (by decide)) ?_
        obtain ⟨hk29, h⟩ := ao_some h
        cases h
        exact cx_athrow p28.1 11 (q := (RX11, TX11, 6)) dX12_tried_48 rfl hk29 rfl ⟨rfl, rfl⟩
    · intro e d MC MS hd r0 x1 x2 x3 M ρ y h
      replace h := ao_ifF h (by decide)
      replace h := ao_ifF h (by decide)
      replace h := ao_ifF h (by decide)
      replace h := ao_ifF h (by decide)
      replace h := ao_ifF h (by decide)
      replace h := ao_ifF h (by decide)
      replace h := ao_ifF h (by decide)
      replace h := ao_ifF h (by decide)
      replace h := ao_ifF h (by decide)
      replace h := ao_ifF h (by decide)
      replace h := ao_ifF h (by decide)
      replace h := ao_ifF h (by decide)
      replace h := ao_ifF h (by decide)
      replace h := ao_ifF h (by decide)
      replace h := ao_ifF h (by decide)
      replace h := ao_ifF h (by decide)
      replace h := ao_ifF h (by decide)
      replace h := ao_ifF h (by decide)
      replace h := ao_ifF h (by decide)
      replace h := ao_ifF h (by decide)
      replace h := ao_ifF h (by decide)
      replace h := ao_ifF h (by decide)
      replace h := ao_ifF h (by decide)
      replace h := ao_ifF h (by decide)
      replace h := ao_ifF h (by decide)
      replace h := ao_ifF h (by decide)
      replace h := ao_ifF h (by decide)
      replace h := ao_ifF h (by decide)
      replace h := ao_ifF h (by decide)
      replace h := ao_ifF h (by decide)
      replace h := ao_ifF h (by decide)
      replace h := ao_ifF h (by decide)
      replace h := ao_ifF h (by decide)
      replace h := ao_ifF h (by decide)
      replace h := ao_ifT h rfl
      refine ao_aload_n 0 dX12_tried_106 rfl rfl ?_
      obtain ⟨hk30, h⟩ := ao_some h
      obtain ⟨j31, hj31, h⟩ := ao_bind h
      refine an_getR r0 12 12 (q := (RX12, TX12, 83)) dX12_tried_107 rfl hk30 (Nat.le_of_ble_eq_true rfl) rfl lf_X12_74 hj31 ?_
      refine ao_iconst (v := 3) dX12_tried_110 (by decide) ?_
      refine ao_iload_n 3 dX12_tried_111 rfl rfl ?_
      refine ao_imul dX12_tried_112 ?_
      refine ao_iconst (v := 1) dX12_tried_113 (by decide) ?_
      refine ao_iadd dX12_tried_114 ?_
      refine ao_aload_n 0 dX12_tried_115 rfl rfl ?_
      refine an_getI r0 12 13 (q := (RX12, TX12, 83)) dX12_tried_116 rfl hk30 (Nat.le_of_ble_eq_true rfl) rfl lf_X12_78 ?_
      obtain ⟨hk32, h⟩ := ao_some h
      obtain ⟨hb33, h⟩ := ao_some h
      refine an_iastore j31 dX12_tried_119 hk32 hb33 (fun M34 hM34 => ?_)
      replace h := ao_letD h hM34
      cases h
      exact ao_return dX12_tried_120 rfl ⟨rfl, rfl⟩
    · intro e d MC MS hd r0 x1 M ρ y h
      replace h := ao_ifF h (by decide)
      replace h := ao_ifF h (by decide)
      replace h := ao_ifF h (by decide)
      replace h := ao_ifF h (by decide)
      replace h := ao_ifF h (by decide)
      replace h := ao_ifF h (by decide)
      replace h := ao_ifF h (by decide)
      replace h := ao_ifF h (by decide)
      replace h := ao_ifF h (by decide)
      replace h := ao_ifF h (by decide)
      replace h := ao_ifF h (by decide)
      replace h := ao_ifF h (by decide)
      replace h := ao_ifF h (by decide)
      replace h := ao_ifF h (by decide)
      replace h := ao_ifF h (by decide)
      replace h := ao_ifF h (by decide)
      replace h := ao_ifF h (by decide)
      replace h := ao_ifF h (by decide)
      replace h := ao_ifF h (by decide)
      replace h := ao_ifF h (by decide)
      replace h := ao_ifF h (by decide)
      replace h := ao_ifF h (by decide)
      replace h := ao_ifF h (by decide)
      replace h := ao_ifF h (by decide)
      replace h := ao_ifF h (by decide)
      replace h := ao_ifF h (by decide)
      replace h := ao_ifF h (by decide)
      replace h := ao_ifF h (by decide)
      replace h := ao_ifF h (by decide)
      replace h := ao_ifF h (by decide)
      replace h := ao_ifF h (by decide)
      replace h := ao_ifF h (by decide)
      replace h := ao_ifF h (by decide)
      replace h := ao_ifF h (by decide)
      replace h := ao_ifF h (by decide)
      replace h := ao_ifT h rfl
      refine ao_aload_n 0 dX12_atom_0 rfl rfl ?_
      refine ao_dup dX12_atom_1 rfl ?_
      obtain ⟨hk1, h⟩ := ao_some h
      refine an_getI r0 12 16 (q := (RX12, TX12, 83)) dX12_atom_2 rfl hk1 (Nat.le_of_ble_eq_true rfl) rfl lf_X12_110 ?_
      refine ao_iconst (v := 1) dX12_atom_5 (by decide) ?_
      refine ao_iadd dX12_atom_6 ?_
      refine an_putI r0 12 16 (q := (RX12, TX12, 83)) dX12_atom_7 rfl hk1 (Nat.le_of_ble_eq_true rfl) lf_X12_110 rfl rfl rfl rfl (fun M2 hM2 => ?_)
      replace h := ao_letD h hM2
      refine ao_aload_n 0 dX12_atom_10 rfl rfl ?_
      refine ao_bipush (v := 15) dX12_atom_11 (by decide) ?_
      refine ao_iconst (v := 0) dX12_atom_13 (by decide) ?_
      refine ao_iconst (v := 0) dX12_atom_14 (by decide) ?_
      obtain ⟨p3, hp3, h⟩ := ao_bind h
      refine an_callVi r0 12 (q := (RX12, TX12, 83)) [.int (15 : Int32), .int (0 : Int32), .int (0 : Int32)] (aX12_make (d - 1) (by omega) r0 (15 : Int32) (0 : Int32) (0 : Int32) M2 ρ hp3) dX12_atom_15 lc_X12_87 li_X12_make ls_X12_make rfl hk1 rfl rfl (Nat.le_of_ble_eq_true rfl) (ao_hR (by omega) (by decide)) ?_
      refine an_topi (fun v4 hv4 => ?_)
      replace h := ao_letD h hv4
      refine ao_istore_n 2 (lo' := [some (.ref (Γ.2.2.2 + r0)), some (.int x1), some (.int v4), none, none, none]) dX12_atom_18 rfl (Nat.le_of_ble_eq_true rfl) rfl ?_
      refine ao_aload_n 0 dX12_atom_19 rfl rfl ?_
      obtain ⟨he6, h⟩ := ao_some h
      obtain ⟨p5, hp5, h⟩ := ao_bind h
      have hAp5 : ao_A Γ uX12_block (d - 1) (ao_dc ρ p5.2.2) (ao_ds ρ p5.2.2) [.ref (Γ.2.2.2 + r0)] (p3.2, ρ) (ao_ZV p5) := by
        refine ao_of (by decide) (ao_cat1 (Nat.le_of_ble_eq_true rfl)) (Nat.le_of_ble_eq_true rfl) ?_
        show ao_W Γ uX12_block (ao_rm (d - 1) (ao_dc ρ p5.2.2) (ao_ds ρ p5.2.2)) (ao_Q Γ (ao_ZV p5) (ao_dc ρ p5.2.2) (ao_ds ρ p5.2.2)) (ao_dc ρ p5.2.2) (ao_ds ρ p5.2.2) 0 [some (.ref (Γ.2.2.2 + r0))] [] (p3.2, ρ)
        exact ih.1 (e - 1) (d - 1) _ _ (by omega) r0 p3.2 ρ _ hp5
      refine cx_callVv r0 12 (q := (RX12, TX12, 83)) [] hAp5 dX12_atom_20 lc_X12_119 li_X12_block ls_X12_block rfl hk1 rfl rfl (Nat.le_of_ble_eq_true rfl) (ao_hR (by omega) (by decide)) (ao_leC ((mGB n).1 (e - 1) r0 p3.2 ρ _ hp5) (ao_csM h (fun _ h => (mGB n).2.2.2.2.2.2.2.2.2.2.2.2.2.2.2.2.2.2.2.2.2.2.2.2.2.2.2.2.2.2.2.2.2.2.2.2.1 e r0 x1 v4 p5.2.1 p5.2.2 _ h) (fun _ h => by cases h; exact ao_le_rf _))) (ao_leS ((mGB n).1 (e - 1) r0 p3.2 ρ _ hp5) (ao_csM h (fun _ h => (mGB n).2.2.2.2.2.2.2.2.2.2.2.2.2.2.2.2.2.2.2.2.2.2.2.2.2.2.2.2.2.2.2.2.2.2.2.2.1 e r0 x1 v4 p5.2.1 p5.2.2 _ h) (fun _ h => by cases h; exact ao_le_rf _))) (fun _ e7 => ?_) (fun _ e7 => ?_)
      · replace h := ao_csL h e7
        exact ih.2.2.2.2.2.2.2.2.2.2.2.2.2.2.2.2.2.2.2.2.2.2.2.2.2.2.2.2.2.2.2.2.2.2.2.2.1 e d MC MS hd r0 x1 v4 p5.2.1 p5.2.2 _ h
      · replace h := ao_csR h e7
        cases h
        exact cx_out rfl ⟨rfl, rfl⟩
    · intro e d MC MS hd r0 x1 x2 M ρ y h
      replace h := ao_ifF h (by decide)
      replace h := ao_ifF h (by decide)
      replace h := ao_ifF h (by decide)
      replace h := ao_ifF h (by decide)
      replace h := ao_ifF h (by decide)
      replace h := ao_ifF h (by decide)
      replace h := ao_ifF h (by decide)
      replace h := ao_ifF h (by decide)
      replace h := ao_ifF h (by decide)
      replace h := ao_ifF h (by decide)
      replace h := ao_ifF h (by decide)
      replace h := ao_ifF h (by decide)
      replace h := ao_ifF h (by decide)
      replace h := ao_ifF h (by decide)
      replace h := ao_ifF h (by decide)
      replace h := ao_ifF h (by decide)
      replace h := ao_ifF h (by decide)
      replace h := ao_ifF h (by decide)
      replace h := ao_ifF h (by decide)
      replace h := ao_ifF h (by decide)
      replace h := ao_ifF h (by decide)
      replace h := ao_ifF h (by decide)
      replace h := ao_ifF h (by decide)
      replace h := ao_ifF h (by decide)
      replace h := ao_ifF h (by decide)
      replace h := ao_ifF h (by decide)
      replace h := ao_ifF h (by decide)
      replace h := ao_ifF h (by decide)
      replace h := ao_ifF h (by decide)
      replace h := ao_ifF h (by decide)
      replace h := ao_ifF h (by decide)
      replace h := ao_ifF h (by decide)
      replace h := ao_ifF h (by decide)
      replace h := ao_ifF h (by decide)
      replace h := ao_ifF h (by decide)
      replace h := ao_ifF h (by decide)
      replace h := ao_ifT h rfl
      refine ao_aload_n 0 dX12_atom_23 rfl rfl ?_
      refine ao_bipush (v := 16) dX12_atom_24 (by decide) ?_
      refine ao_iconst (v := 0) dX12_atom_26 (by decide) ?_
      refine ao_iconst (v := 0) dX12_atom_27 (by decide) ?_
      obtain ⟨hk8, h⟩ := ao_some h
      obtain ⟨p9, hp9, h⟩ := ao_bind h
      refine an_callVi r0 12 (q := (RX12, TX12, 83)) [.int (16 : Int32), .int (0 : Int32), .int (0 : Int32)] (aX12_make (d - 1) (by omega) r0 (16 : Int32) (0 : Int32) (0 : Int32) M ρ hp9) dX12_atom_28 lc_X12_87 li_X12_make ls_X12_make rfl hk8 rfl rfl (Nat.le_of_ble_eq_true rfl) (ao_hR (by omega) (by decide)) ?_
      refine an_topi (fun v10 hv10 => ?_)
      replace h := ao_letD h hv10
      refine ao_istore_n 3 (lo' := [some (.ref (Γ.2.2.2 + r0)), some (.int x1), some (.int x2), some (.int v10), none, none]) dX12_atom_31 rfl (Nat.le_of_ble_eq_true rfl) rfl ?_
      refine ao_iconst (v := (-1)) dX12_atom_32 (by decide) ?_
      refine ao_istore 4 (lo' := [some (.ref (Γ.2.2.2 + r0)), some (.int x1), some (.int x2), some (.int v10), some (.int (-1 : Int32)), none]) dX12_atom_33 (Nat.le_of_ble_eq_true rfl) rfl ?_
      refine ao_aload_n 0 dX12_atom_35 rfl rfl ?_
      refine ao_bipush (v := 6) dX12_atom_36 (by decide) ?_
      obtain ⟨p11, hp11, h⟩ := ao_bind h
      refine an_callVi r0 12 (q := (RX12, TX12, 83)) [.int (6 : Int32)] (aX12_isWord (d - 1) (by omega) r0 (6 : Int32) p9.2 ρ hp11) dX12_atom_38 lc_X12_122 li_X12_isWord ls_X12_isWord rfl hk8 rfl rfl (Nat.le_of_ble_eq_true rfl) (ao_hR (by omega) (by decide)) ?_
      refine ao_if_eq 92 dX12_atom_41 (by decide) (fun c12 => ?_) (fun c12 => ?_)
      · replace h := ao_ifT h c12
        exact ih.2.2.2.2.2.2.2.2.2.2.2.2.2.2.2.2.2.2.2.2.2.2.2.2.2.2.2.2.2.2.2.2.2.2.2.2.2.2.1 e d MC MS hd r0 x1 x2 v10 (-1 : Int32) p11.2 ρ _ h
      · replace h := ao_ifF h c12
        refine ao_aload_n 0 dX12_atom_44 rfl rfl ?_
        obtain ⟨p13, hp13, h⟩ := ao_bind h
        refine an_callVv r0 12 (q := (RX12, TX12, 83)) [] (aX12_token (d - 1) (by omega) _ r0 p11.2 ρ hp13) dX12_atom_45 lc_X12_63 li_X12_token ls_X12_token rfl hk8 rfl rfl (Nat.le_of_ble_eq_true rfl) (ao_hR (by omega) (by decide)) ?_
        refine ao_aload_n 0 dX12_atom_48 rfl rfl ?_
        refine ao_bipush (v := 12) dX12_atom_49 (by decide) ?_
        refine ao_iconst (v := 0) dX12_atom_51 (by decide) ?_
        refine ao_iconst (v := 0) dX12_atom_52 (by decide) ?_
        obtain ⟨p14, hp14, h⟩ := ao_bind h
        refine an_callVi r0 12 (q := (RX12, TX12, 83)) [.int (12 : Int32), .int (0 : Int32), .int (0 : Int32)] (aX12_make (d - 1) (by omega) r0 (12 : Int32) (0 : Int32) (0 : Int32) p13 ρ hp14) dX12_atom_53 lc_X12_87 li_X12_make ls_X12_make rfl hk8 rfl rfl (Nat.le_of_ble_eq_true rfl) (ao_hR (by omega) (by decide)) ?_
        refine an_topi (fun v15 hv15 => ?_)
        replace h := ao_letD h hv15
        refine ao_istore 5 (lo' := [some (.ref (Γ.2.2.2 + r0)), some (.int x1), some (.int x2), some (.int v10), some (.int (-1 : Int32)), some (.int v15)]) dX12_atom_56 (Nat.le_of_ble_eq_true rfl) rfl ?_
        refine ao_aload_n 0 dX12_atom_58 rfl rfl ?_
        refine an_getI r0 12 13 (q := (RX12, TX12, 83)) dX12_atom_59 rfl hk8 (Nat.le_of_ble_eq_true rfl) rfl lf_X12_78 ?_
        refine an_topi (fun v16 hv16 => ?_)
        replace h := ao_letD h hv16
        refine ao_istore 4 (lo' := [some (.ref (Γ.2.2.2 + r0)), some (.int x1), some (.int x2), some (.int v10), some (.int v16), some (.int v15)]) dX12_atom_62 (Nat.le_of_ble_eq_true rfl) rfl ?_
        refine ao_aload_n 0 dX12_atom_64 rfl rfl ?_
        obtain ⟨he18, h⟩ := ao_some h
        obtain ⟨p17, hp17, h⟩ := ao_bind h
        have hAp17 : ao_A Γ uX12_block (d - 1) (ao_dc ρ p17.2.2) (ao_ds ρ p17.2.2) [.ref (Γ.2.2.2 + r0)] (p14.2, ρ) (ao_ZV p17) := by
          refine ao_of (by decide) (ao_cat1 (Nat.le_of_ble_eq_true rfl)) (Nat.le_of_ble_eq_true rfl) ?_
          show ao_W Γ uX12_block (ao_rm (d - 1) (ao_dc ρ p17.2.2) (ao_ds ρ p17.2.2)) (ao_Q Γ (ao_ZV p17) (ao_dc ρ p17.2.2) (ao_ds ρ p17.2.2)) (ao_dc ρ p17.2.2) (ao_ds ρ p17.2.2) 0 [some (.ref (Γ.2.2.2 + r0))] [] (p14.2, ρ)
          exact ih.1 (e - 1) (d - 1) _ _ (by omega) r0 p14.2 ρ _ hp17
        refine cx_callVv r0 12 (q := (RX12, TX12, 83)) [] hAp17 dX12_atom_65 lc_X12_119 li_X12_block ls_X12_block rfl hk8 rfl rfl (Nat.le_of_ble_eq_true rfl) (ao_hR (by omega) (by decide)) (ao_leC ((mGB n).1 (e - 1) r0 p14.2 ρ _ hp17) (ao_csM h (fun _ h => (mGB n).2.2.2.2.2.2.2.2.2.2.2.2.2.2.2.2.2.2.2.2.2.2.2.2.2.2.2.2.2.2.2.2.2.2.2.2.2.1 e r0 x1 x2 v10 v16 v15 p17.2.1 p17.2.2 _ h) (fun _ h => by cases h; exact ao_le_rf _))) (ao_leS ((mGB n).1 (e - 1) r0 p14.2 ρ _ hp17) (ao_csM h (fun _ h => (mGB n).2.2.2.2.2.2.2.2.2.2.2.2.2.2.2.2.2.2.2.2.2.2.2.2.2.2.2.2.2.2.2.2.2.2.2.2.2.1 e r0 x1 x2 v10 v16 v15 p17.2.1 p17.2.2 _ h) (fun _ h => by cases h; exact ao_le_rf _))) (fun _ e19 => ?_) (fun _ e19 => ?_)
        · replace h := ao_csL h e19
          exact ih.2.2.2.2.2.2.2.2.2.2.2.2.2.2.2.2.2.2.2.2.2.2.2.2.2.2.2.2.2.2.2.2.2.2.2.2.2.1 e d MC MS hd r0 x1 x2 v10 v16 v15 p17.2.1 p17.2.2 _ h
        · replace h := ao_csR h e19
          cases h
          exact cx_out rfl ⟨rfl, rfl⟩
    · intro e d MC MS hd r0 x1 x2 x3 x4 x5 M ρ y h
      replace h := ao_ifF h (by decide)
      replace h := ao_ifF h (by decide)
      replace h := ao_ifF h (by decide)
      replace h := ao_ifF h (by decide)
      replace h := ao_ifF h (by decide)
      replace h := ao_ifF h (by decide)
      replace h := ao_ifF h (by decide)
      replace h := ao_ifF h (by decide)
      replace h := ao_ifF h (by decide)
      replace h := ao_ifF h (by decide)
      replace h := ao_ifF h (by decide)
      replace h := ao_ifF h (by decide)
      replace h := ao_ifF h (by decide)
      replace h := ao_ifF h (by decide)
      replace h := ao_ifF h (by decide)
      replace h := ao_ifF h (by decide)
      replace h := ao_ifF h (by decide)
      replace h := ao_ifF h (by decide)
      replace h := ao_ifF h (by decide)
      replace h := ao_ifF h (by decide)
      replace h := ao_ifF h (by decide)
      replace h := ao_ifF h (by decide)
      replace h := ao_ifF h (by decide)
      replace h := ao_ifF h (by decide)
      replace h := ao_ifF h (by decide)
      replace h := ao_ifF h (by decide)
      replace h := ao_ifF h (by decide)
      replace h := ao_ifF h (by decide)
      replace h := ao_ifF h (by decide)
      replace h := ao_ifF h (by decide)
      replace h := ao_ifF h (by decide)
      replace h := ao_ifF h (by decide)
      replace h := ao_ifF h (by decide)
      replace h := ao_ifF h (by decide)
      replace h := ao_ifF h (by decide)
      replace h := ao_ifF h (by decide)
      replace h := ao_ifF h (by decide)
      replace h := ao_ifT h rfl
      refine ao_aload_n 0 dX12_atom_68 rfl rfl ?_
      refine ao_bipush (v := 16) dX12_atom_69 (by decide) ?_
      refine ao_iconst (v := 0) dX12_atom_71 (by decide) ?_
      refine ao_iconst (v := 0) dX12_atom_72 (by decide) ?_
      obtain ⟨hk20, h⟩ := ao_some h
      obtain ⟨p21, hp21, h⟩ := ao_bind h
      refine an_callVi r0 12 (q := (RX12, TX12, 83)) [.int (16 : Int32), .int (0 : Int32), .int (0 : Int32)] (aX12_make (d - 1) (by omega) r0 (16 : Int32) (0 : Int32) (0 : Int32) M ρ hp21) dX12_atom_73 lc_X12_87 li_X12_make ls_X12_make rfl hk20 rfl rfl (Nat.le_of_ble_eq_true rfl) (ao_hR (by omega) (by decide)) ?_
      refine an_topi (fun v22 hv22 => ?_)
      replace h := ao_letD h hv22
      refine ao_istore_n 3 (lo' := [some (.ref (Γ.2.2.2 + r0)), some (.int x1), some (.int x2), some (.int v22), some (.int x4), some (.int x5)]) dX12_atom_76 rfl (Nat.le_of_ble_eq_true rfl) rfl ?_
      refine ao_aload_n 0 dX12_atom_77 rfl rfl ?_
      obtain ⟨j23, hj23, h⟩ := ao_bind h
      refine an_getR r0 12 12 (q := (RX12, TX12, 83)) dX12_atom_78 rfl hk20 (Nat.le_of_ble_eq_true rfl) rfl lf_X12_74 hj23 ?_
      refine ao_iconst (v := 3) dX12_atom_81 (by decide) ?_
      refine ao_iload 5 dX12_atom_82 rfl ?_
      refine ao_imul dX12_atom_84 ?_
      refine ao_iconst (v := 1) dX12_atom_85 (by decide) ?_
      refine ao_iadd dX12_atom_86 ?_
      refine ao_aload_n 0 dX12_atom_87 rfl rfl ?_
      refine an_getI r0 12 13 (q := (RX12, TX12, 83)) dX12_atom_88 rfl hk20 (Nat.le_of_ble_eq_true rfl) rfl lf_X12_78 ?_
      obtain ⟨hk24, h⟩ := ao_some h
      obtain ⟨hb25, h⟩ := ao_some h
      refine an_iastore j23 dX12_atom_91 hk24 hb25 (fun M26 hM26 => ?_)
      replace h := ao_letD h hM26
      refine ao_loForget (lo' := [some (.ref (Γ.2.2.2 + r0)), some (.int x1), some (.int x2), some (.int v22), some (.int x4), none]) (ao_fgS (ao_fgS (ao_fgS (ao_fgS (ao_fgS (ao_fgN ao_fgZ)))))) ?_
      exact ih.2.2.2.2.2.2.2.2.2.2.2.2.2.2.2.2.2.2.2.2.2.2.2.2.2.2.2.2.2.2.2.2.2.2.2.2.2.2.1 e d MC MS hd r0 x1 x2 v22 x4 M26 ρ _ h
    · intro e d MC MS hd r0 x1 x2 x3 x4 M ρ y h
      replace h := ao_ifF h (by decide)
      replace h := ao_ifF h (by decide)
      replace h := ao_ifF h (by decide)
      replace h := ao_ifF h (by decide)
      replace h := ao_ifF h (by decide)
      replace h := ao_ifF h (by decide)
      replace h := ao_ifF h (by decide)
      replace h := ao_ifF h (by decide)
      replace h := ao_ifF h (by decide)
      replace h := ao_ifF h (by decide)
      replace h := ao_ifF h (by decide)
      replace h := ao_ifF h (by decide)
      replace h := ao_ifF h (by decide)
      replace h := ao_ifF h (by decide)
      replace h := ao_ifF h (by decide)
      replace h := ao_ifF h (by decide)
      replace h := ao_ifF h (by decide)
      replace h := ao_ifF h (by decide)
      replace h := ao_ifF h (by decide)
      replace h := ao_ifF h (by decide)
      replace h := ao_ifF h (by decide)
      replace h := ao_ifF h (by decide)
      replace h := ao_ifF h (by decide)
      replace h := ao_ifF h (by decide)
      replace h := ao_ifF h (by decide)
      replace h := ao_ifF h (by decide)
      replace h := ao_ifF h (by decide)
      replace h := ao_ifF h (by decide)
      replace h := ao_ifF h (by decide)
      replace h := ao_ifF h (by decide)
      replace h := ao_ifF h (by decide)
      replace h := ao_ifF h (by decide)
      replace h := ao_ifF h (by decide)
      replace h := ao_ifF h (by decide)
      replace h := ao_ifF h (by decide)
      replace h := ao_ifF h (by decide)
      replace h := ao_ifF h (by decide)
      replace h := ao_ifF h (by decide)
      replace h := ao_ifT h rfl
      refine ao_aload_n 0 dX12_atom_92 rfl rfl ?_
      obtain ⟨hk27, h⟩ := ao_some h
      obtain ⟨j28, hj28, h⟩ := ao_bind h
      refine an_getR r0 12 12 (q := (RX12, TX12, 83)) dX12_atom_93 rfl hk27 (Nat.le_of_ble_eq_true rfl) rfl lf_X12_74 hj28 ?_
      refine ao_iconst (v := 3) dX12_atom_96 (by decide) ?_
      refine ao_iload_n 2 dX12_atom_97 rfl rfl ?_
      refine ao_imul dX12_atom_98 ?_
      refine ao_iconst (v := 1) dX12_atom_99 (by decide) ?_
      refine ao_iadd dX12_atom_100 ?_
      refine ao_iconst (v := 2) dX12_atom_101 (by decide) ?_
      refine ao_iload 4 dX12_atom_102 rfl ?_
      refine ao_iconst (v := 1) dX12_atom_104 (by decide) ?_
      refine ao_iadd dX12_atom_105 ?_
      refine ao_imul dX12_atom_106 ?_
      refine ao_iload_n 1 dX12_atom_107 rfl rfl ?_
      refine ao_if_eq 115 dX12_atom_108 (by decide) (fun c29 => ?_) (fun c29 => ?_)
      · replace h := ao_ifT h c29
        refine ao_iconst (v := 0) dX12_atom_115 (by decide) ?_
        exact ih.2.2.2.2.2.2.2.2.2.2.2.2.2.2.2.2.2.2.2.2.2.2.2.2.2.2.2.2.2.2.2.2.2.2.2.2.2.2.2 e d MC MS hd r0 x1 x2 x3 x4 (0 : Int32) ((2 : Int32) * (x4 + (1 : Int32))) (((3 : Int32) * x2) + (1 : Int32)) j28 M ρ _ h
      · replace h := ao_ifF h c29
        refine ao_iconst (v := 1) dX12_atom_111 (by decide) ?_
        refine ao_goto 116 dX12_atom_112 (by decide) ?_
        exact ih.2.2.2.2.2.2.2.2.2.2.2.2.2.2.2.2.2.2.2.2.2.2.2.2.2.2.2.2.2.2.2.2.2.2.2.2.2.2.2 e d MC MS hd r0 x1 x2 x3 x4 (1 : Int32) ((2 : Int32) * (x4 + (1 : Int32))) (((3 : Int32) * x2) + (1 : Int32)) j28 M ρ _ h
    · intro e d MC MS hd r0 x1 x2 x3 x4 s0 s1 s2 q3 M ρ y h
      replace h := ao_ifF h (by decide)
      replace h := ao_ifF h (by decide)
      replace h := ao_ifF h (by decide)
      replace h := ao_ifF h (by decide)
      replace h := ao_ifF h (by decide)
      replace h := ao_ifF h (by decide)
      replace h := ao_ifF h (by decide)
      replace h := ao_ifF h (by decide)
      replace h := ao_ifF h (by decide)
      replace h := ao_ifF h (by decide)
      replace h := ao_ifF h (by decide)
      replace h := ao_ifF h (by decide)
      replace h := ao_ifF h (by decide)
      replace h := ao_ifF h (by decide)
      replace h := ao_ifF h (by decide)
      replace h := ao_ifF h (by decide)
      replace h := ao_ifF h (by decide)
      replace h := ao_ifF h (by decide)
      replace h := ao_ifF h (by decide)
      replace h := ao_ifF h (by decide)
      replace h := ao_ifF h (by decide)
      replace h := ao_ifF h (by decide)
      replace h := ao_ifF h (by decide)
      replace h := ao_ifF h (by decide)
      replace h := ao_ifF h (by decide)
      replace h := ao_ifF h (by decide)
      replace h := ao_ifF h (by decide)
      replace h := ao_ifF h (by decide)
      replace h := ao_ifF h (by decide)
      replace h := ao_ifF h (by decide)
      replace h := ao_ifF h (by decide)
      replace h := ao_ifF h (by decide)
      replace h := ao_ifF h (by decide)
      replace h := ao_ifF h (by decide)
      replace h := ao_ifF h (by decide)
      replace h := ao_ifF h (by decide)
      replace h := ao_ifF h (by decide)
      replace h := ao_ifF h (by decide)
      replace h := ao_ifF h (by decide)
      replace h := ao_ifT h rfl
      refine ao_iadd dX12_atom_116 ?_
      obtain ⟨hk30, h⟩ := ao_some h
      obtain ⟨hb31, h⟩ := ao_some h
      refine an_iastore q3 dX12_atom_117 hk30 hb31 (fun M32 hM32 => ?_)
      replace h := ao_letD h hM32
      refine ao_aload_n 0 dX12_atom_118 rfl rfl ?_
      obtain ⟨hk33, h⟩ := ao_some h
      obtain ⟨j34, hj34, h⟩ := ao_bind h
      refine an_getR r0 12 12 (q := (RX12, TX12, 83)) dX12_atom_119 rfl hk33 (Nat.le_of_ble_eq_true rfl) rfl lf_X12_74 hj34 ?_
      refine ao_iconst (v := 3) dX12_atom_122 (by decide) ?_
      refine ao_iload_n 2 dX12_atom_123 rfl rfl ?_
      refine ao_imul dX12_atom_124 ?_
      refine ao_iconst (v := 2) dX12_atom_125 (by decide) ?_
      refine ao_iadd dX12_atom_126 ?_
      refine ao_aload_n 0 dX12_atom_127 rfl rfl ?_
      refine an_getI r0 12 13 (q := (RX12, TX12, 83)) dX12_atom_128 rfl hk33 (Nat.le_of_ble_eq_true rfl) rfl lf_X12_78 ?_
      obtain ⟨hk35, h⟩ := ao_some h
      obtain ⟨hb36, h⟩ := ao_some h
      refine an_iastore j34 dX12_atom_131 hk35 hb36 (fun M37 hM37 => ?_)
      replace h := ao_letD h hM37
      refine ao_aload_n 0 dX12_atom_132 rfl rfl ?_
      refine ao_dup dX12_atom_133 rfl ?_
      refine an_getI r0 12 16 (q := (RX12, TX12, 83)) dX12_atom_134 rfl hk33 (Nat.le_of_ble_eq_true rfl) rfl lf_X12_110 ?_
      refine ao_iconst (v := 1) dX12_atom_137 (by decide) ?_
      refine ao_isub dX12_atom_138 ?_
      refine an_putI r0 12 16 (q := (RX12, TX12, 83)) dX12_atom_139 rfl hk33 (Nat.le_of_ble_eq_true rfl) lf_X12_110 rfl rfl rfl rfl (fun M38 hM38 => ?_)
      replace h := ao_letD h hM38
      cases h
      exact ao_return dX12_atom_142 rfl ⟨rfl, rfl⟩
def gX12_block (n : Nat) (r0 : Nat) (M : ao_M) (ρ : ao_H) : Option ((Int32 ⊕ String) × ao_S) := fGB n 64 0 r0 0 0 0 0 0 0 0 0 0 0 0 M ρ
theorem me_X12_block (n : Nat) (r0 : Nat) (M : ao_M) (ρ : ao_H) {y : (Int32 ⊕ String) × ao_S} (h : gX12_block n r0 M ρ = some y) : ao_le ρ y.2.2 := (mGB n).1 64 r0 M ρ y h
set_option maxRecDepth 100000 in
set_option maxHeartbeats 4000000 in
theorem aX12_block {Γ : ao_C} (d : Nat) (hd : 138 ≤ d) (n : Nat) (r0 : Nat) (M : ao_M) (ρ : ao_H) {y : (Int32 ⊕ String) × ao_S} (h : gX12_block n r0 M ρ = some y) : ao_A Γ uX12_block d (ao_dc ρ y.2.2) (ao_ds ρ y.2.2) [.ref (Γ.2.2.2 + r0)] (M, ρ) (ao_ZV y) := by
  refine ao_of (by decide) (ao_cat1 (Nat.le_of_ble_eq_true rfl)) (Nat.le_of_ble_eq_true rfl) ?_
  show ao_W Γ uX12_block (ao_rm d (ao_dc ρ y.2.2) (ao_ds ρ y.2.2)) (ao_Q Γ (ao_ZV y) (ao_dc ρ y.2.2) (ao_ds ρ y.2.2)) (ao_dc ρ y.2.2) (ao_ds ρ y.2.2) 0 [some (.ref (Γ.2.2.2 + r0))] [] (M, ρ)
  exact (wGB n).1 64 d _ _ hd r0 M ρ y h
def gX12_statement (n : Nat) (r0 : Nat) (M : ao_M) (ρ : ao_H) : Option ((Int32 ⊕ String) × ao_S) := fGB n 64 1000 r0 0 0 0 0 0 0 0 0 0 0 0 M ρ
theorem me_X12_statement (n : Nat) (r0 : Nat) (M : ao_M) (ρ : ao_H) {y : (Int32 ⊕ String) × ao_S} (h : gX12_statement n r0 M ρ = some y) : ao_le ρ y.2.2 := (mGB n).2.2.2.2.1 64 r0 M ρ y h
set_option maxRecDepth 100000 in
set_option maxHeartbeats 4000000 in
theorem aX12_statement {Γ : ao_C} (d : Nat) (hd : 138 ≤ d) (n : Nat) (r0 : Nat) (M : ao_M) (ρ : ao_H) {y : (Int32 ⊕ String) × ao_S} (h : gX12_statement n r0 M ρ = some y) : ao_A Γ uX12_statement d (ao_dc ρ y.2.2) (ao_ds ρ y.2.2) [.ref (Γ.2.2.2 + r0)] (M, ρ) (ao_ZV y) := by
  refine ao_of (by decide) (ao_cat1 (Nat.le_of_ble_eq_true rfl)) (Nat.le_of_ble_eq_true rfl) ?_
  show ao_W Γ uX12_statement (ao_rm d (ao_dc ρ y.2.2) (ao_ds ρ y.2.2)) (ao_Q Γ (ao_ZV y) (ao_dc ρ y.2.2) (ao_ds ρ y.2.2)) (ao_dc ρ y.2.2) (ao_ds ρ y.2.2) 0 [some (.ref (Γ.2.2.2 + r0)), none, none, none, none, none, none] [] (M, ρ)
  exact (wGB n).2.2.2.2.1 64 d _ _ hd r0 M ρ y h
def gX12_tried (n : Nat) (r0 : Nat) (M : ao_M) (ρ : ao_H) : Option ((Int32 ⊕ String) × ao_S) := fGB n 64 2000 r0 0 0 0 0 0 0 0 0 0 0 0 M ρ
theorem me_X12_tried (n : Nat) (r0 : Nat) (M : ao_M) (ρ : ao_H) {y : (Int32 ⊕ String) × ao_S} (h : gX12_tried n r0 M ρ = some y) : ao_le ρ y.2.2 := (mGB n).2.2.2.2.2.2.2.2.2.2.2.2.2.2.2.2.2.2.2.2.2.2.2.2.2.2.2.2.2.2.2.2.1 64 r0 M ρ y h
set_option maxRecDepth 100000 in
set_option maxHeartbeats 4000000 in
theorem aX12_tried {Γ : ao_C} (d : Nat) (hd : 138 ≤ d) (n : Nat) (r0 : Nat) (M : ao_M) (ρ : ao_H) {y : (Int32 ⊕ String) × ao_S} (h : gX12_tried n r0 M ρ = some y) : ao_A Γ uX12_tried d (ao_dc ρ y.2.2) (ao_ds ρ y.2.2) [.ref (Γ.2.2.2 + r0)] (M, ρ) (ao_ZV y) := by
  refine ao_of (by decide) (ao_cat1 (Nat.le_of_ble_eq_true rfl)) (Nat.le_of_ble_eq_true rfl) ?_
  show ao_W Γ uX12_tried (ao_rm d (ao_dc ρ y.2.2) (ao_ds ρ y.2.2)) (ao_Q Γ (ao_ZV y) (ao_dc ρ y.2.2) (ao_ds ρ y.2.2)) (ao_dc ρ y.2.2) (ao_ds ρ y.2.2) 0 [some (.ref (Γ.2.2.2 + r0)), none, none, none] [] (M, ρ)
  exact (wGB n).2.2.2.2.2.2.2.2.2.2.2.2.2.2.2.2.2.2.2.2.2.2.2.2.2.2.2.2.2.2.2.2.1 64 d _ _ hd r0 M ρ y h
def gX12_atom (n : Nat) (r0 : Nat) (x1 : Int32) (M : ao_M) (ρ : ao_H) : Option ((Int32 ⊕ String) × ao_S) := fGB n 64 3000 r0 x1 0 0 0 0 0 0 0 0 0 0 M ρ
theorem me_X12_atom (n : Nat) (r0 : Nat) (x1 : Int32) (M : ao_M) (ρ : ao_H) {y : (Int32 ⊕ String) × ao_S} (h : gX12_atom n r0 x1 M ρ = some y) : ao_le ρ y.2.2 := (mGB n).2.2.2.2.2.2.2.2.2.2.2.2.2.2.2.2.2.2.2.2.2.2.2.2.2.2.2.2.2.2.2.2.2.2.2.1 64 r0 x1 M ρ y h
set_option maxRecDepth 100000 in
set_option maxHeartbeats 4000000 in
theorem aX12_atom {Γ : ao_C} (d : Nat) (hd : 138 ≤ d) (n : Nat) (r0 : Nat) (x1 : Int32) (M : ao_M) (ρ : ao_H) {y : (Int32 ⊕ String) × ao_S} (h : gX12_atom n r0 x1 M ρ = some y) : ao_A Γ uX12_atom d (ao_dc ρ y.2.2) (ao_ds ρ y.2.2) [.ref (Γ.2.2.2 + r0), .int x1] (M, ρ) (ao_ZV y) := by
  refine ao_of (by decide) (ao_cat1 (Nat.le_of_ble_eq_true rfl)) (Nat.le_of_ble_eq_true rfl) ?_
  show ao_W Γ uX12_atom (ao_rm d (ao_dc ρ y.2.2) (ao_ds ρ y.2.2)) (ao_Q Γ (ao_ZV y) (ao_dc ρ y.2.2) (ao_ds ρ y.2.2)) (ao_dc ρ y.2.2) (ao_ds ρ y.2.2) 0 [some (.ref (Γ.2.2.2 + r0)), some (.int x1), none, none, none, none] [] (M, ρ)
  exact (wGB n).2.2.2.2.2.2.2.2.2.2.2.2.2.2.2.2.2.2.2.2.2.2.2.2.2.2.2.2.2.2.2.2.2.2.2.1 64 d _ _ hd r0 x1 M ρ y h
