





abbrev uX0_decide : ao_Mi := (yX0_decide, cX0_decide, 5, (some .int), [])
def fX0_decide : Nat → Nat → Nat → Nat → Nat → Int32 → Int32 →  ao_M → ao_H → Option (Int32 × ao_M)
  | 0, _, _, _, _, _, _, _, _ => none
  | n + 1, pc, r0, r1, r2, x3, x4, M, ρ =>
    if pc = 0 then
      if ρ.2.1 r0 = 10 then
      ao_let (ao_u M r0 1 (0 : Int32)) fun M2 =>
      if ρ.2.1 r1 = 16 then
      ao_let (M2 r1 9) fun v4 =>
      if v4 ≤ (14 : Int32) then
        fX0_decide n 21 r0 r1 r2 v4 (0 : Int32) M2 ρ
      else
        some ((-1 : Int32), M2)
      else none
      else none
    else if pc = 21 then
      if x3 ≤ x4 then
        fX0_decide n 54 r0 r1 r2 x3 x4 M ρ
      else
        if (14 : Int32) ≤ x4 then
          fX0_decide n 54 r0 r1 r2 x3 x4 M ρ
        else
          if ρ.2.1 r0 = 10 then
          (ρ.1 r0 3).bind fun j9 =>
          (gX0_maskAhead n r1 x3 x4 M ρ).bind fun p10 =>
          if ρ.2.1 j9 = 0 then
          if ¬ (x4 < 0 ∨ ρ.2.2.1 j9 ≤ x4.toNatClampNeg) then
          ao_let (ao_u p10.2 j9 x4.toNatClampNeg p10.1) fun M13 =>
          ao_let (x4 + (1 : Int32)) fun v14 =>
          fX0_decide n 21 r0 r1 r2 x3 v14 M13 ρ
          else none
          else none
          else none
    else if pc = 54 then
      if ρ.2.1 r2 = 15 then
      (ρ.1 r2 3).bind fun j16 =>
      if ρ.2.1 r0 = 10 then
      (ρ.1 r0 2).bind fun j18 =>
      if ρ.2.1 j18 = 6 then
      if ¬ ((0 : Int32) < 0 ∨ ρ.2.2.1 j18 ≤ (0 : Int32).toNatClampNeg) then
      (ρ.1 j18 ((0 : Int32).toNatClampNeg)).bind fun j21 =>
      if ρ.2.1 j16 = 0 then
      if ρ.2.1 j21 = 0 then
      if ¬ (0 : Int32) < 0 ∧ ¬ (0 : Int32) < 0 ∧ ¬ (26 : Int32) < 0 ∧ (0 : Int32).toNatClampNeg + (26 : Int32).toNatClampNeg ≤ ρ.2.2.1 j16 ∧ (0 : Int32).toNatClampNeg + (26 : Int32).toNatClampNeg ≤ ρ.2.2.1 j21 then
      ao_let (ao_cp M j16 j21 (0 : Int32).toNatClampNeg (0 : Int32).toNatClampNeg (26 : Int32).toNatClampNeg) fun M25 =>
      ao_let (ao_u M25 r0 4 (0 : Int32)) fun M26 =>
      (gX0_tryFrom n r0 r1 r2 (0 : Int32) (0 : Int32) M26 ρ).bind fun p27 =>
      ao_let p27.1 fun v28 =>
      if v28 = (1 : Int32) then
        ao_let (ao_u p27.2 r0 1 x3) fun M30 =>
        some (v28, M30)
      else
        some (v28, p27.2)
      else none
      else none
      else none
      else none
      else none
      else none
      else none
    else none
def gX0_decide (n : Nat) (r0 : Nat) (r1 : Nat) (r2 : Nat) (M : ao_M) (ρ : ao_H) : Option (Int32 × ao_M) := fX0_decide n 0 r0 r1 r2 0 0 M ρ
set_option maxRecDepth 100000 in
set_option maxHeartbeats 4000000 in
theorem wX0_decide {Γ : ao_C} {ρ : ao_H} (d : Nat) (hd : 66 ≤ d) : ∀ n : Nat, (∀ (r0 : Nat) (r1 : Nat) (r2 : Nat) (M : ao_M) (y : Int32 × ao_M), fX0_decide n 0 r0 r1 r2 0 0 M ρ = some y → ao_W Γ uX0_decide (ao_rm d 0 0) (ao_Q Γ (ao_PI ρ y) 0 0) 0 0 0 [some (.ref (Γ.2.2.2 + r0)), some (.ref (Γ.2.2.2 + r1)), some (.ref (Γ.2.2.2 + r2)), none, none] [] (M, ρ)) ∧ (∀ (r0 : Nat) (r1 : Nat) (r2 : Nat) (x3 : Int32) (x4 : Int32) (M : ao_M) (y : Int32 × ao_M), fX0_decide n 21 r0 r1 r2 x3 x4 M ρ = some y → ao_W Γ uX0_decide (ao_rm d 0 0) (ao_Q Γ (ao_PI ρ y) 0 0) 0 0 21 [some (.ref (Γ.2.2.2 + r0)), some (.ref (Γ.2.2.2 + r1)), some (.ref (Γ.2.2.2 + r2)), some (.int x3), some (.int x4)] [] (M, ρ)) ∧ (∀ (r0 : Nat) (r1 : Nat) (r2 : Nat) (x3 : Int32) (x4 : Int32) (M : ao_M) (y : Int32 × ao_M), fX0_decide n 54 r0 r1 r2 x3 x4 M ρ = some y → ao_W Γ uX0_decide (ao_rm d 0 0) (ao_Q Γ (ao_PI ρ y) 0 0) 0 0 54 [some (.ref (Γ.2.2.2 + r0)), some (.ref (Γ.2.2.2 + r1)), some (.ref (Γ.2.2.2 + r2)), some (.int x3), some (.int x4)] [] (M, ρ)) := by
  intro n
  induction n with
  | zero => exact ⟨fun _ _ _ _ _ h => ao_no h, fun _ _ _ _ _ _ _ h => ao_no h, fun _ _ _ _ _ _ _ h => ao_no h⟩
  | succ n ih =>
    refine ⟨?_, ?_, ?_⟩
    · intro r0 r1 r2 M y h
      replace h := ao_ifT h rfl
      refine ao_aload_n 0 dX0_decide_0 rfl rfl ?_
      refine ao_iconst (v := 0) dX0_decide_1 (by decide) ?_
      obtain ⟨hk1, h⟩ := ao_some h
      refine an_putI r0 0 1 (q := (RX0, TX0, 5)) dX0_decide_2 rfl hk1 (Nat.le_of_ble_eq_true rfl) lf_X0_23 rfl rfl rfl rfl (fun M2 hM2 => ?_)
      replace h := ao_letD h hM2
      refine ao_aload_n 1 dX0_decide_5 rfl rfl ?_
      obtain ⟨hk3, h⟩ := ao_some h
      refine an_getI r1 6 9 (q := (RX6, TX6, 11)) dX0_decide_6 rfl hk3 (Nat.le_of_ble_eq_true rfl) rfl lf_X0_27 ?_
      refine an_topi (fun v4 hv4 => ?_)
      replace h := ao_letD h hv4
      refine ao_istore_n 3 (lo' := [some (.ref (Γ.2.2.2 + r0)), some (.ref (Γ.2.2.2 + r1)), some (.ref (Γ.2.2.2 + r2)), some (.int v4), none]) dX0_decide_9 rfl (Nat.le_of_ble_eq_true rfl) rfl ?_
      refine ao_iload_n 3 dX0_decide_10 rfl rfl ?_
      refine ao_bipush (v := 14) dX0_decide_11 (by decide) ?_
      refine ao_icmp_le 18 dX0_decide_13 (by decide) (fun c5 => ?_) (fun c5 => ?_)
      · replace h := ao_ifT h c5
        refine ao_iconst (v := 0) dX0_decide_18 (by decide) ?_
        refine ao_istore 4 (lo' := [some (.ref (Γ.2.2.2 + r0)), some (.ref (Γ.2.2.2 + r1)), some (.ref (Γ.2.2.2 + r2)), some (.int v4), some (.int (0 : Int32))]) dX0_decide_19 (Nat.le_of_ble_eq_true rfl) rfl ?_
        exact ih.2.1 r0 r1 r2 v4 (0 : Int32) M2 _ h
      · replace h := ao_ifF h c5
        refine ao_iconst (v := (-1)) dX0_decide_16 (by decide) ?_
        cases h
        exact ao_ireturn dX0_decide_17 rfl rfl ⟨rfl, rfl⟩
    · intro r0 r1 r2 x3 x4 M y h
      replace h := ao_ifF h (by decide)
      replace h := ao_ifT h rfl
      refine ao_iload 4 dX0_decide_21 rfl ?_
      refine ao_iload_n 3 dX0_decide_23 rfl rfl ?_
      refine ao_icmp_ge 54 dX0_decide_24 (by decide) (fun c6 => ?_) (fun c6 => ?_)
      · replace h := ao_ifT h c6
        exact ih.2.2 r0 r1 r2 x3 x4 M _ h
      · replace h := ao_ifF h c6
        refine ao_iload 4 dX0_decide_27 rfl ?_
        refine ao_bipush (v := 14) dX0_decide_29 (by decide) ?_
        refine ao_icmp_ge 54 dX0_decide_31 (by decide) (fun c7 => ?_) (fun c7 => ?_)
        · replace h := ao_ifT h c7
          exact ih.2.2 r0 r1 r2 x3 x4 M _ h
        · replace h := ao_ifF h c7
          refine ao_aload_n 0 dX0_decide_34 rfl rfl ?_
          obtain ⟨hk8, h⟩ := ao_some h
          obtain ⟨j9, hj9, h⟩ := ao_bind h
          refine an_getR r0 0 3 (q := (RX0, TX0, 5)) dX0_decide_35 rfl hk8 (Nat.le_of_ble_eq_true rfl) rfl lf_X0_20 hj9 ?_
          refine ao_iload 4 dX0_decide_38 rfl ?_
          refine ao_aload_n 1 dX0_decide_40 rfl rfl ?_
          refine ao_iload_n 3 dX0_decide_41 rfl rfl ?_
          refine ao_iload 4 dX0_decide_42 rfl ?_
          obtain ⟨p10, hp10, h⟩ := ao_bind h
          refine an_callSi [.ref (Γ.2.2.2 + r1), .int x3, .int x4] (aX0_maskAhead (d - 1) (by omega) _ r1 x3 x4 M ρ hp10) dX0_decide_44 lc_X0_32 lt_X0_maskAhead rfl rfl (Nat.le_of_ble_eq_true rfl) (ao_hR (by omega) (by decide)) ?_
          obtain ⟨hk11, h⟩ := ao_some h
          obtain ⟨hb12, h⟩ := ao_some h
          refine an_iastore j9 dX0_decide_47 hk11 hb12 (fun M13 hM13 => ?_)
          replace h := ao_letD h hM13
          obtain ⟨v14, hv14⟩ : ∃ z : Int32, z = x4 + (1 : Int32) := ⟨_, rfl⟩
          replace h := ao_letD h hv14
          refine ao_iinc 4 (v := v14) (lo' := [some (.ref (Γ.2.2.2 + r0)), some (.ref (Γ.2.2.2 + r1)), some (.ref (Γ.2.2.2 + r2)), some (.int x3), some (.int v14)]) dX0_decide_48 rfl (by rw [hv14]; rfl) (Nat.le_of_ble_eq_true rfl) rfl ?_
          refine ao_goto 21 dX0_decide_51 (by decide) ?_
          exact ih.2.1 r0 r1 r2 x3 v14 M13 _ h
    · intro r0 r1 r2 x3 x4 M y h
      replace h := ao_ifF h (by decide)
      replace h := ao_ifF h (by decide)
      replace h := ao_ifT h rfl
      refine ao_aload_n 2 dX0_decide_54 rfl rfl ?_
      obtain ⟨hk15, h⟩ := ao_some h
      obtain ⟨j16, hj16, h⟩ := ao_bind h
      refine an_getR r2 5 3 (q := (RX5, TX5, 11)) dX0_decide_55 rfl hk15 (Nat.le_of_ble_eq_true rfl) rfl lf_X0_36 hj16 ?_
      refine ao_iconst (v := 0) dX0_decide_58 (by decide) ?_
      refine ao_aload_n 0 dX0_decide_59 rfl rfl ?_
      obtain ⟨hk17, h⟩ := ao_some h
      obtain ⟨j18, hj18, h⟩ := ao_bind h
      refine an_getR r0 0 2 (q := (RX0, TX0, 5)) dX0_decide_60 rfl hk17 (Nat.le_of_ble_eq_true rfl) rfl lf_X0_17 hj18 ?_
      refine ao_iconst (v := 0) dX0_decide_63 (by decide) ?_
      obtain ⟨hk19, h⟩ := ao_some h
      obtain ⟨hb20, h⟩ := ao_some h
      obtain ⟨j21, hj21, h⟩ := ao_bind h
      refine an_aaload j18 6 dX0_decide_64 hk19 (by decide) hb20 hj21 ?_
      refine ao_iconst (v := 0) dX0_decide_65 (by decide) ?_
      refine ao_bipush (v := 26) dX0_decide_66 (by decide) ?_
      obtain ⟨hk22, h⟩ := ao_some h
      obtain ⟨hk23, h⟩ := ao_some h
      obtain ⟨hc24, h⟩ := ao_some h
      refine an_copy j16 j21 dX0_decide_68 lcp_X0_41 hk22 hk23 hc24 (Nat.le_of_ble_eq_true rfl) (ao_cpR (by omega)) (fun M25 hM25 => ?_)
      replace h := ao_letD h hM25
      refine ao_aload_n 0 dX0_decide_71 rfl rfl ?_
      refine ao_iconst (v := 0) dX0_decide_72 (by decide) ?_
      refine an_putI r0 0 4 (q := (RX0, TX0, 5)) dX0_decide_73 rfl hk17 (Nat.le_of_ble_eq_true rfl) lf_X0_47 rfl rfl rfl rfl (fun M26 hM26 => ?_)
      replace h := ao_letD h hM26
      refine ao_aload_n 0 dX0_decide_76 rfl rfl ?_
      refine ao_aload_n 1 dX0_decide_77 rfl rfl ?_
      refine ao_aload_n 2 dX0_decide_78 rfl rfl ?_
      refine ao_iconst (v := 0) dX0_decide_79 (by decide) ?_
      refine ao_iconst (v := 0) dX0_decide_80 (by decide) ?_
      obtain ⟨p27, hp27, h⟩ := ao_bind h
      refine an_callVi r0 0 (q := (RX0, TX0, 5)) [.ref (Γ.2.2.2 + r1), .ref (Γ.2.2.2 + r2), .int (0 : Int32), .int (0 : Int32)] (aX0_tryFrom (d - 1) (by omega) _ r0 r1 r2 (0 : Int32) (0 : Int32) M26 ρ hp27) dX0_decide_81 lc_X0_50 li_X0_tryFrom ls_X0_tryFrom rfl hk17 rfl rfl (Nat.le_of_ble_eq_true rfl) (ao_hR (by omega) (by decide)) ?_
      refine an_topi (fun v28 hv28 => ?_)
      replace h := ao_letD h hv28
      refine ao_istore 4 (lo' := [some (.ref (Γ.2.2.2 + r0)), some (.ref (Γ.2.2.2 + r1)), some (.ref (Γ.2.2.2 + r2)), some (.int x3), some (.int v28)]) dX0_decide_84 (Nat.le_of_ble_eq_true rfl) rfl ?_
      refine ao_iload 4 dX0_decide_86 rfl ?_
      refine ao_iconst (v := 1) dX0_decide_88 (by decide) ?_
      refine ao_icmp_ne 97 dX0_decide_89 (by decide) (fun c29 => ?_) (fun c29 => ?_)
      · replace h := ao_ifF h c29
        refine ao_iload 4 dX0_decide_97 rfl ?_
        cases h
        exact ao_ireturn dX0_decide_99 rfl rfl ⟨rfl, rfl⟩
      · replace h := ao_ifT h c29
        refine ao_aload_n 0 dX0_decide_92 rfl rfl ?_
        refine ao_iload_n 3 dX0_decide_93 rfl rfl ?_
        refine an_putI r0 0 1 (q := (RX0, TX0, 5)) dX0_decide_94 rfl hk17 (Nat.le_of_ble_eq_true rfl) lf_X0_23 rfl rfl rfl rfl (fun M30 hM30 => ?_)
        replace h := ao_letD h hM30
        refine ao_iload 4 dX0_decide_97 rfl ?_
        cases h
        exact ao_ireturn dX0_decide_99 rfl rfl ⟨rfl, rfl⟩
set_option maxRecDepth 100000 in
set_option maxHeartbeats 4000000 in
theorem aX0_decide {Γ : ao_C} (d : Nat) (hd : 66 ≤ d) (n : Nat) (r0 : Nat) (r1 : Nat) (r2 : Nat) (M : ao_M) (ρ : ao_H) {y : Int32 × ao_M} (h : gX0_decide n r0 r1 r2 M ρ = some y) : ao_A Γ uX0_decide d 0 0 [.ref (Γ.2.2.2 + r0), .ref (Γ.2.2.2 + r1), .ref (Γ.2.2.2 + r2)] (M, ρ) (ao_PI ρ y) := by
  refine ao_of (by decide) (ao_cat1 (Nat.le_of_ble_eq_true rfl)) (Nat.le_of_ble_eq_true rfl) ?_
  show ao_W Γ uX0_decide (ao_rm d 0 0) (ao_Q Γ (ao_PI ρ y) 0 0) 0 0 0 [some (.ref (Γ.2.2.2 + r0)), some (.ref (Γ.2.2.2 + r1)), some (.ref (Γ.2.2.2 + r2)), none, none] [] (M, ρ)
  exact (wX0_decide d hd n).1 r0 r1 r2 M y h

abbrev uX2_init : ao_Mi := (yX2_init, cX2_init, 2, none, [])
def fX2_init : Nat → Nat → Nat → Int32 → Nat → Nat → Int32 → Nat →  ao_M → ao_H → Option (ao_S)
  | 0, _, _, _, _, _, _, _, _, _ => none
  | n + 1, pc, r0, x1, q0, q1, s1, q2, M, ρ =>
    if pc = 0 then
      (ρ.2.2.2.1).bind fun n1 =>
      fX2_init n 8 r0 0 n1 r0 0 0 (ao_zr M n1) (ao_nw ρ n1 15 0 11)
    else if pc = 8 then
      (gX5_init n q0 M ρ).bind fun p2 =>
      fX2_init n 12 r0 0 q0 q1 0 0 p2.1 p2.2
    else if pc = 12 then
      if ρ.2.1 q1 = 12 then
      fX2_init n 15 r0 0 0 0 0 0 M (ao_r ρ q1 0 (some q0))
      else none
    else if pc = 15 then
      (ρ.2.2.2.1).bind fun n4 =>
      fX2_init n 19 r0 0 n4 r0 0 0 (ao_zr M n4) (ao_nw ρ n4 18 0 3)
    else if pc = 19 then
      (gX8_init n q0 M ρ).bind fun p5 =>
      fX2_init n 23 r0 0 q0 q1 0 0 p5.1 p5.2
    else if pc = 23 then
      if ρ.2.1 q1 = 12 then
      fX2_init n 26 r0 0 0 0 0 0 M (ao_r ρ q1 2 (some q0))
      else none
    else if pc = 26 then
      (ρ.2.2.2.1).bind fun n7 =>
      fX2_init n 30 r0 0 n7 r0 0 0 (ao_zr M n7) (ao_nw ρ n7 16 0 11)
    else if pc = 30 then
      (gX6_init n q0 M ρ).bind fun p8 =>
      fX2_init n 34 r0 0 q0 q1 0 0 p8.1 p8.2
    else if pc = 34 then
      if ρ.2.1 q1 = 12 then
      fX2_init n 37 r0 0 0 0 0 0 M (ao_r ρ q1 3 (some q0))
      else none
    else if pc = 37 then
      (ρ.2.2.2.1).bind fun n10 =>
      if ¬ (6 : Int32) < 0 ∧ (6 : Int32).toNatClampNeg * 8 ≤ 536870912 then
      fX2_init n 43 r0 0 n10 r0 0 0 (ao_zr M n10) (ao_nw ρ n10 4 (6 : Int32).toNatClampNeg (6 : Int32).toNatClampNeg)
      else none
    else if pc = 43 then
      if ρ.2.1 q1 = 12 then
      fX2_init n 46 r0 0 0 0 0 0 M (ao_r ρ q1 1 (some q0))
      else none
    else if pc = 46 then
      fX2_init n 48 r0 (0 : Int32) 0 0 0 0 M ρ
    else if pc = 48 then
      if (6 : Int32) ≤ x1 then
        if ρ.2.1 r0 = 12 then
        ao_let (ao_u M r0 5 (0 : Int32)) fun M15 =>
        some (M15, ρ)
        else none
      else
        if ρ.2.1 r0 = 12 then
        (ρ.1 r0 1).bind fun j17 =>
        (ρ.2.2.2.1).bind fun n18 =>
        fX2_init n 62 r0 x1 n18 0 x1 j17 (ao_zr M n18) (ao_nw ρ n18 17 0 20)
        else none
    else if pc = 62 then
      (gX7_init n q0 x1 M ρ).bind fun p19 =>
      fX2_init n 67 r0 x1 q0 0 s1 q2 p19.1 p19.2
    else if pc = 67 then
      if ρ.2.1 q2 = 4 then
      if ρ.2.1 q0 = 17 then
      if ¬ (s1 < 0 ∨ ρ.2.2.1 q2 ≤ s1.toNatClampNeg) then
      fX2_init n 68 r0 x1 0 0 0 0 M (ao_r ρ q2 s1.toNatClampNeg (some q0))
      else none
      else none
      else none
    else if pc = 68 then
      ao_let (x1 + (1 : Int32)) fun v23 =>
      fX2_init n 48 r0 v23 0 0 0 0 M ρ
    else none
def gX2_init (n : Nat) (r0 : Nat) (M : ao_M) (ρ : ao_H) : Option (ao_S) := fX2_init n 0 r0 0 0 0 0 0 M ρ
set_option maxRecDepth 100000 in
set_option maxHeartbeats 4000000 in
theorem mX2_init : ∀ n : Nat, (∀ (r0 : Nat) (M : ao_M) (ρ : ao_H) (y : ao_S), fX2_init n 0 r0 0 0 0 0 0 M ρ = some y → ao_le ρ y.2) ∧ (∀ (r0 : Nat) (q0 : Nat) (q1 : Nat) (M : ao_M) (ρ : ao_H) (y : ao_S), fX2_init n 8 r0 0 q0 q1 0 0 M ρ = some y → ao_le ρ y.2) ∧ (∀ (r0 : Nat) (q0 : Nat) (q1 : Nat) (M : ao_M) (ρ : ao_H) (y : ao_S), fX2_init n 12 r0 0 q0 q1 0 0 M ρ = some y → ao_le ρ y.2) ∧ (∀ (r0 : Nat) (M : ao_M) (ρ : ao_H) (y : ao_S), fX2_init n 15 r0 0 0 0 0 0 M ρ = some y → ao_le ρ y.2) ∧ (∀ (r0 : Nat) (q0 : Nat) (q1 : Nat) (M : ao_M) (ρ : ao_H) (y : ao_S), fX2_init n 19 r0 0 q0 q1 0 0 M ρ = some y → ao_le ρ y.2) ∧ (∀ (r0 : Nat) (q0 : Nat) (q1 : Nat) (M : ao_M) (ρ : ao_H) (y : ao_S), fX2_init n 23 r0 0 q0 q1 0 0 M ρ = some y → ao_le ρ y.2) ∧ (∀ (r0 : Nat) (M : ao_M) (ρ : ao_H) (y : ao_S), fX2_init n 26 r0 0 0 0 0 0 M ρ = some y → ao_le ρ y.2) ∧ (∀ (r0 : Nat) (q0 : Nat) (q1 : Nat) (M : ao_M) (ρ : ao_H) (y : ao_S), fX2_init n 30 r0 0 q0 q1 0 0 M ρ = some y → ao_le ρ y.2) ∧ (∀ (r0 : Nat) (q0 : Nat) (q1 : Nat) (M : ao_M) (ρ : ao_H) (y : ao_S), fX2_init n 34 r0 0 q0 q1 0 0 M ρ = some y → ao_le ρ y.2) ∧ (∀ (r0 : Nat) (M : ao_M) (ρ : ao_H) (y : ao_S), fX2_init n 37 r0 0 0 0 0 0 M ρ = some y → ao_le ρ y.2) ∧ (∀ (r0 : Nat) (q0 : Nat) (q1 : Nat) (M : ao_M) (ρ : ao_H) (y : ao_S), fX2_init n 43 r0 0 q0 q1 0 0 M ρ = some y → ao_le ρ y.2) ∧ (∀ (r0 : Nat) (M : ao_M) (ρ : ao_H) (y : ao_S), fX2_init n 46 r0 0 0 0 0 0 M ρ = some y → ao_le ρ y.2) ∧ (∀ (r0 : Nat) (x1 : Int32) (M : ao_M) (ρ : ao_H) (y : ao_S), fX2_init n 48 r0 x1 0 0 0 0 M ρ = some y → ao_le ρ y.2) ∧ (∀ (r0 : Nat) (x1 : Int32) (q0 : Nat) (s1 : Int32) (q2 : Nat) (M : ao_M) (ρ : ao_H) (y : ao_S), fX2_init n 62 r0 x1 q0 0 s1 q2 M ρ = some y → ao_le ρ y.2) ∧ (∀ (r0 : Nat) (x1 : Int32) (q0 : Nat) (s1 : Int32) (q2 : Nat) (M : ao_M) (ρ : ao_H) (y : ao_S), fX2_init n 67 r0 x1 q0 0 s1 q2 M ρ = some y → ao_le ρ y.2) ∧ (∀ (r0 : Nat) (x1 : Int32) (M : ao_M) (ρ : ao_H) (y : ao_S), fX2_init n 68 r0 x1 0 0 0 0 M ρ = some y → ao_le ρ y.2) := by
  intro n
  induction n with
  | zero => exact ⟨fun _ _ _ _ h => ao_no h, fun _ _ _ _ _ _ h => ao_no h, fun _ _ _ _ _ _ h => ao_no h, fun _ _ _ _ h => ao_no h, fun _ _ _ _ _ _ h => ao_no h, fun _ _ _ _ _ _ h => ao_no h, fun _ _ _ _ h => ao_no h, fun _ _ _ _ _ _ h => ao_no h, fun _ _ _ _ _ _ h => ao_no h, fun _ _ _ _ h => ao_no h, fun _ _ _ _ _ _ h => ao_no h, fun _ _ _ _ h => ao_no h, fun _ _ _ _ _ h => ao_no h, fun _ _ _ _ _ _ _ _ h => ao_no h, fun _ _ _ _ _ _ _ _ h => ao_no h, fun _ _ _ _ _ h => ao_no h⟩
  | succ n ih =>
    refine ⟨?_, ?_, ?_, ?_, ?_, ?_, ?_, ?_, ?_, ?_, ?_, ?_, ?_, ?_, ?_, ?_⟩
    · intro r0 M ρ y h
      replace h := ao_ifT h rfl
      obtain ⟨n1, hn1, h⟩ := ao_bind h
      exact ao_le_tr (ao_le_nw _ _ _ _ _) (ih.2.1 r0 n1 r0 (ao_zr M n1) (ao_nw ρ n1 15 0 11) _ h)
    · intro r0 q0 q1 M ρ y h
      replace h := ao_ifF h (by decide)
      replace h := ao_ifT h rfl
      obtain ⟨p2, hp2, h⟩ := ao_bind h
      exact ao_le_tr (me_X5_init n q0 M ρ hp2) (ih.2.2.1 r0 q0 q1 p2.1 p2.2 _ h)
    · intro r0 q0 q1 M ρ y h
      replace h := ao_ifF h (by decide)
      replace h := ao_ifF h (by decide)
      replace h := ao_ifT h rfl
      obtain ⟨-, h⟩ := ao_some h
      exact ao_le_tr (ao_le_r _ _ _ _) (ih.2.2.2.1 r0 M (ao_r ρ q1 0 (some q0)) _ h)
    · intro r0 M ρ y h
      replace h := ao_ifF h (by decide)
      replace h := ao_ifF h (by decide)
      replace h := ao_ifF h (by decide)
      replace h := ao_ifT h rfl
      obtain ⟨n4, hn4, h⟩ := ao_bind h
      exact ao_le_tr (ao_le_nw _ _ _ _ _) (ih.2.2.2.2.1 r0 n4 r0 (ao_zr M n4) (ao_nw ρ n4 18 0 3) _ h)
    · intro r0 q0 q1 M ρ y h
      replace h := ao_ifF h (by decide)
      replace h := ao_ifF h (by decide)
      replace h := ao_ifF h (by decide)
      replace h := ao_ifF h (by decide)
      replace h := ao_ifT h rfl
      obtain ⟨p5, hp5, h⟩ := ao_bind h
      exact ao_le_tr (me_X8_init n q0 M ρ hp5) (ih.2.2.2.2.2.1 r0 q0 q1 p5.1 p5.2 _ h)
    · intro r0 q0 q1 M ρ y h
      replace h := ao_ifF h (by decide)
      replace h := ao_ifF h (by decide)
      replace h := ao_ifF h (by decide)
      replace h := ao_ifF h (by decide)
      replace h := ao_ifF h (by decide)
      replace h := ao_ifT h rfl
      obtain ⟨-, h⟩ := ao_some h
      exact ao_le_tr (ao_le_r _ _ _ _) (ih.2.2.2.2.2.2.1 r0 M (ao_r ρ q1 2 (some q0)) _ h)
    · intro r0 M ρ y h
      replace h := ao_ifF h (by decide)
      replace h := ao_ifF h (by decide)
      replace h := ao_ifF h (by decide)
      replace h := ao_ifF h (by decide)
      replace h := ao_ifF h (by decide)
      replace h := ao_ifF h (by decide)
      replace h := ao_ifT h rfl
      obtain ⟨n7, hn7, h⟩ := ao_bind h
      exact ao_le_tr (ao_le_nw _ _ _ _ _) (ih.2.2.2.2.2.2.2.1 r0 n7 r0 (ao_zr M n7) (ao_nw ρ n7 16 0 11) _ h)
    · intro r0 q0 q1 M ρ y h
      replace h := ao_ifF h (by decide)
      replace h := ao_ifF h (by decide)
      replace h := ao_ifF h (by decide)
      replace h := ao_ifF h (by decide)
      replace h := ao_ifF h (by decide)
      replace h := ao_ifF h (by decide)
      replace h := ao_ifF h (by decide)
      replace h := ao_ifT h rfl
      obtain ⟨p8, hp8, h⟩ := ao_bind h
      exact ao_le_tr (me_X6_init n q0 M ρ hp8) (ih.2.2.2.2.2.2.2.2.1 r0 q0 q1 p8.1 p8.2 _ h)
    · intro r0 q0 q1 M ρ y h
      replace h := ao_ifF h (by decide)
      replace h := ao_ifF h (by decide)
      replace h := ao_ifF h (by decide)
      replace h := ao_ifF h (by decide)
      replace h := ao_ifF h (by decide)
      replace h := ao_ifF h (by decide)
      replace h := ao_ifF h (by decide)
      replace h := ao_ifF h (by decide)
      replace h := ao_ifT h rfl
      obtain ⟨-, h⟩ := ao_some h
      exact ao_le_tr (ao_le_r _ _ _ _) (ih.2.2.2.2.2.2.2.2.2.1 r0 M (ao_r ρ q1 3 (some q0)) _ h)
    · intro r0 M ρ y h
      replace h := ao_ifF h (by decide)
      replace h := ao_ifF h (by decide)
      replace h := ao_ifF h (by decide)
      replace h := ao_ifF h (by decide)
      replace h := ao_ifF h (by decide)
      replace h := ao_ifF h (by decide)
      replace h := ao_ifF h (by decide)
      replace h := ao_ifF h (by decide)
      replace h := ao_ifF h (by decide)
      replace h := ao_ifT h rfl
      obtain ⟨n10, hn10, h⟩ := ao_bind h
      obtain ⟨-, h⟩ := ao_some h
      exact ao_le_tr (ao_le_nw _ _ _ _ _) (ih.2.2.2.2.2.2.2.2.2.2.1 r0 n10 r0 (ao_zr M n10) (ao_nw ρ n10 4 (6 : Int32).toNatClampNeg (6 : Int32).toNatClampNeg) _ h)
    · intro r0 q0 q1 M ρ y h
      replace h := ao_ifF h (by decide)
      replace h := ao_ifF h (by decide)
      replace h := ao_ifF h (by decide)
      replace h := ao_ifF h (by decide)
      replace h := ao_ifF h (by decide)
      replace h := ao_ifF h (by decide)
      replace h := ao_ifF h (by decide)
      replace h := ao_ifF h (by decide)
      replace h := ao_ifF h (by decide)
      replace h := ao_ifF h (by decide)
      replace h := ao_ifT h rfl
      obtain ⟨-, h⟩ := ao_some h
      exact ao_le_tr (ao_le_r _ _ _ _) (ih.2.2.2.2.2.2.2.2.2.2.2.1 r0 M (ao_r ρ q1 1 (some q0)) _ h)
    · intro r0 M ρ y h
      replace h := ao_ifF h (by decide)
      replace h := ao_ifF h (by decide)
      replace h := ao_ifF h (by decide)
      replace h := ao_ifF h (by decide)
      replace h := ao_ifF h (by decide)
      replace h := ao_ifF h (by decide)
      replace h := ao_ifF h (by decide)
      replace h := ao_ifF h (by decide)
      replace h := ao_ifF h (by decide)
      replace h := ao_ifF h (by decide)
      replace h := ao_ifF h (by decide)
      replace h := ao_ifT h rfl
      exact ih.2.2.2.2.2.2.2.2.2.2.2.2.1 r0 (0 : Int32) M ρ _ h
    · intro r0 x1 M ρ y h
      replace h := ao_ifF h (by decide)
      replace h := ao_ifF h (by decide)
      replace h := ao_ifF h (by decide)
      replace h := ao_ifF h (by decide)
      replace h := ao_ifF h (by decide)
      replace h := ao_ifF h (by decide)
      replace h := ao_ifF h (by decide)
      replace h := ao_ifF h (by decide)
      replace h := ao_ifF h (by decide)
      replace h := ao_ifF h (by decide)
      replace h := ao_ifF h (by decide)
      replace h := ao_ifF h (by decide)
      replace h := ao_ifT h rfl
      rcases ao_ifC h with h | h
      · obtain ⟨-, h⟩ := ao_some h
        replace h := ao_letD h rfl
        generalize (ao_u M r0 5 (0 : Int32)) = M15 at h
        cases h
        exact ao_le_rf _
      · obtain ⟨-, h⟩ := ao_some h
        obtain ⟨j17, hj17, h⟩ := ao_bind h
        obtain ⟨n18, hn18, h⟩ := ao_bind h
        exact ao_le_tr (ao_le_nw _ _ _ _ _) (ih.2.2.2.2.2.2.2.2.2.2.2.2.2.1 r0 x1 n18 x1 j17 (ao_zr M n18) (ao_nw ρ n18 17 0 20) _ h)
    · intro r0 x1 q0 s1 q2 M ρ y h
      replace h := ao_ifF h (by decide)
      replace h := ao_ifF h (by decide)
      replace h := ao_ifF h (by decide)
      replace h := ao_ifF h (by decide)
      replace h := ao_ifF h (by decide)
      replace h := ao_ifF h (by decide)
      replace h := ao_ifF h (by decide)
      replace h := ao_ifF h (by decide)
      replace h := ao_ifF h (by decide)
      replace h := ao_ifF h (by decide)
      replace h := ao_ifF h (by decide)
      replace h := ao_ifF h (by decide)
      replace h := ao_ifF h (by decide)
      replace h := ao_ifT h rfl
      obtain ⟨p19, hp19, h⟩ := ao_bind h
      exact ao_le_tr (me_X7_init n q0 x1 M ρ hp19) (ih.2.2.2.2.2.2.2.2.2.2.2.2.2.2.1 r0 x1 q0 s1 q2 p19.1 p19.2 _ h)
    · intro r0 x1 q0 s1 q2 M ρ y h
      replace h := ao_ifF h (by decide)
      replace h := ao_ifF h (by decide)
      replace h := ao_ifF h (by decide)
      replace h := ao_ifF h (by decide)
      replace h := ao_ifF h (by decide)
      replace h := ao_ifF h (by decide)
      replace h := ao_ifF h (by decide)
      replace h := ao_ifF h (by decide)
      replace h := ao_ifF h (by decide)
      replace h := ao_ifF h (by decide)
      replace h := ao_ifF h (by decide)
      replace h := ao_ifF h (by decide)
      replace h := ao_ifF h (by decide)
      replace h := ao_ifF h (by decide)
      replace h := ao_ifT h rfl
      obtain ⟨-, h⟩ := ao_some h
      obtain ⟨-, h⟩ := ao_some h
      obtain ⟨-, h⟩ := ao_some h
      exact ao_le_tr (ao_le_r _ _ _ _) (ih.2.2.2.2.2.2.2.2.2.2.2.2.2.2.2 r0 x1 M (ao_r ρ q2 s1.toNatClampNeg (some q0)) _ h)
    · intro r0 x1 M ρ y h
      replace h := ao_ifF h (by decide)
      replace h := ao_ifF h (by decide)
      replace h := ao_ifF h (by decide)
      replace h := ao_ifF h (by decide)
      replace h := ao_ifF h (by decide)
      replace h := ao_ifF h (by decide)
      replace h := ao_ifF h (by decide)
      replace h := ao_ifF h (by decide)
      replace h := ao_ifF h (by decide)
      replace h := ao_ifF h (by decide)
      replace h := ao_ifF h (by decide)
      replace h := ao_ifF h (by decide)
      replace h := ao_ifF h (by decide)
      replace h := ao_ifF h (by decide)
      replace h := ao_ifF h (by decide)
      replace h := ao_ifT h rfl
      replace h := ao_letD h rfl
      generalize (x1 + (1 : Int32)) = v23 at h
      exact ih.2.2.2.2.2.2.2.2.2.2.2.2.1 r0 v23 M ρ _ h
set_option maxRecDepth 100000 in
set_option maxHeartbeats 4000000 in
theorem wX2_init {Γ : ao_C} (d : Nat) (hd : 3 ≤ d) (MC MS : Nat) : ∀ n : Nat, (∀ (r0 : Nat) (M : ao_M) (ρ : ao_H) (y : ao_S), fX2_init n 0 r0 0 0 0 0 0 M ρ = some y → ao_W Γ uX2_init (ao_rm d MC MS) (ao_Q Γ (ao_QV y) MC MS) (ao_dc ρ y.2) (ao_ds ρ y.2) 0 [some (.ref (Γ.2.2.2 + r0)), none] [] (M, ρ)) ∧ (∀ (r0 : Nat) (q0 : Nat) (q1 : Nat) (M : ao_M) (ρ : ao_H) (y : ao_S), fX2_init n 8 r0 0 q0 q1 0 0 M ρ = some y → ao_W Γ uX2_init (ao_rm d MC MS) (ao_Q Γ (ao_QV y) MC MS) (ao_dc ρ y.2) (ao_ds ρ y.2) 8 [some (.ref (Γ.2.2.2 + r0)), none] [.ref (Γ.2.2.2 + q0), .ref (Γ.2.2.2 + q1)] (M, ρ)) ∧ (∀ (r0 : Nat) (q0 : Nat) (q1 : Nat) (M : ao_M) (ρ : ao_H) (y : ao_S), fX2_init n 12 r0 0 q0 q1 0 0 M ρ = some y → ao_W Γ uX2_init (ao_rm d MC MS) (ao_Q Γ (ao_QV y) MC MS) (ao_dc ρ y.2) (ao_ds ρ y.2) 12 [some (.ref (Γ.2.2.2 + r0)), none] [.ref (Γ.2.2.2 + q0), .ref (Γ.2.2.2 + q1)] (M, ρ)) ∧ (∀ (r0 : Nat) (M : ao_M) (ρ : ao_H) (y : ao_S), fX2_init n 15 r0 0 0 0 0 0 M ρ = some y → ao_W Γ uX2_init (ao_rm d MC MS) (ao_Q Γ (ao_QV y) MC MS) (ao_dc ρ y.2) (ao_ds ρ y.2) 15 [some (.ref (Γ.2.2.2 + r0)), none] [] (M, ρ)) ∧ (∀ (r0 : Nat) (q0 : Nat) (q1 : Nat) (M : ao_M) (ρ : ao_H) (y : ao_S), fX2_init n 19 r0 0 q0 q1 0 0 M ρ = some y → ao_W Γ uX2_init (ao_rm d MC MS) (ao_Q Γ (ao_QV y) MC MS) (ao_dc ρ y.2) (ao_ds ρ y.2) 19 [some (.ref (Γ.2.2.2 + r0)), none] [.ref (Γ.2.2.2 + q0), .ref (Γ.2.2.2 + q1)] (M, ρ)) ∧ (∀ (r0 : Nat) (q0 : Nat) (q1 : Nat) (M : ao_M) (ρ : ao_H) (y : ao_S), fX2_init n 23 r0 0 q0 q1 0 0 M ρ = some y → ao_W Γ uX2_init (ao_rm d MC MS) (ao_Q Γ (ao_QV y) MC MS) (ao_dc ρ y.2) (ao_ds ρ y.2) 23 [some (.ref (Γ.2.2.2 + r0)), none] [.ref (Γ.2.2.2 + q0), .ref (Γ.2.2.2 + q1)] (M, ρ)) ∧ (∀ (r0 : Nat) (M : ao_M) (ρ : ao_H) (y : ao_S), fX2_init n 26 r0 0 0 0 0 0 M ρ = some y → ao_W Γ uX2_init (ao_rm d MC MS) (ao_Q Γ (ao_QV y) MC MS) (ao_dc ρ y.2) (ao_ds ρ y.2) 26 [some (.ref (Γ.2.2.2 + r0)), none] [] (M, ρ)) ∧ (∀ (r0 : Nat) (q0 : Nat) (q1 : Nat) (M : ao_M) (ρ : ao_H) (y : ao_S), fX2_init n 30 r0 0 q0 q1 0 0 M ρ = some y → ao_W Γ uX2_init (ao_rm d MC MS) (ao_Q Γ (ao_QV y) MC MS) (ao_dc ρ y.2) (ao_ds ρ y.2) 30 [some (.ref (Γ.2.2.2 + r0)), none] [.ref (Γ.2.2.2 + q0), .ref (Γ.2.2.2 + q1)] (M, ρ)) ∧ (∀ (r0 : Nat) (q0 : Nat) (q1 : Nat) (M : ao_M) (ρ : ao_H) (y : ao_S), fX2_init n 34 r0 0 q0 q1 0 0 M ρ = some y → ao_W Γ uX2_init (ao_rm d MC MS) (ao_Q Γ (ao_QV y) MC MS) (ao_dc ρ y.2) (ao_ds ρ y.2) 34 [some (.ref (Γ.2.2.2 + r0)), none] [.ref (Γ.2.2.2 + q0), .ref (Γ.2.2.2 + q1)] (M, ρ)) ∧ (∀ (r0 : Nat) (M : ao_M) (ρ : ao_H) (y : ao_S), fX2_init n 37 r0 0 0 0 0 0 M ρ = some y → ao_W Γ uX2_init (ao_rm d MC MS) (ao_Q Γ (ao_QV y) MC MS) (ao_dc ρ y.2) (ao_ds ρ y.2) 37 [some (.ref (Γ.2.2.2 + r0)), none] [] (M, ρ)) ∧ (∀ (r0 : Nat) (q0 : Nat) (q1 : Nat) (M : ao_M) (ρ : ao_H) (y : ao_S), fX2_init n 43 r0 0 q0 q1 0 0 M ρ = some y → ao_W Γ uX2_init (ao_rm d MC MS) (ao_Q Γ (ao_QV y) MC MS) (ao_dc ρ y.2) (ao_ds ρ y.2) 43 [some (.ref (Γ.2.2.2 + r0)), none] [.ref (Γ.2.2.2 + q0), .ref (Γ.2.2.2 + q1)] (M, ρ)) ∧ (∀ (r0 : Nat) (M : ao_M) (ρ : ao_H) (y : ao_S), fX2_init n 46 r0 0 0 0 0 0 M ρ = some y → ao_W Γ uX2_init (ao_rm d MC MS) (ao_Q Γ (ao_QV y) MC MS) (ao_dc ρ y.2) (ao_ds ρ y.2) 46 [some (.ref (Γ.2.2.2 + r0)), none] [] (M, ρ)) ∧ (∀ (r0 : Nat) (x1 : Int32) (M : ao_M) (ρ : ao_H) (y : ao_S), fX2_init n 48 r0 x1 0 0 0 0 M ρ = some y → ao_W Γ uX2_init (ao_rm d MC MS) (ao_Q Γ (ao_QV y) MC MS) (ao_dc ρ y.2) (ao_ds ρ y.2) 48 [some (.ref (Γ.2.2.2 + r0)), some (.int x1)] [] (M, ρ)) ∧ (∀ (r0 : Nat) (x1 : Int32) (q0 : Nat) (s1 : Int32) (q2 : Nat) (M : ao_M) (ρ : ao_H) (y : ao_S), fX2_init n 62 r0 x1 q0 0 s1 q2 M ρ = some y → ao_W Γ uX2_init (ao_rm d MC MS) (ao_Q Γ (ao_QV y) MC MS) (ao_dc ρ y.2) (ao_ds ρ y.2) 62 [some (.ref (Γ.2.2.2 + r0)), some (.int x1)] [.ref (Γ.2.2.2 + q0), .int s1, .ref (Γ.2.2.2 + q2)] (M, ρ)) ∧ (∀ (r0 : Nat) (x1 : Int32) (q0 : Nat) (s1 : Int32) (q2 : Nat) (M : ao_M) (ρ : ao_H) (y : ao_S), fX2_init n 67 r0 x1 q0 0 s1 q2 M ρ = some y → ao_W Γ uX2_init (ao_rm d MC MS) (ao_Q Γ (ao_QV y) MC MS) (ao_dc ρ y.2) (ao_ds ρ y.2) 67 [some (.ref (Γ.2.2.2 + r0)), some (.int x1)] [.ref (Γ.2.2.2 + q0), .int s1, .ref (Γ.2.2.2 + q2)] (M, ρ)) ∧ (∀ (r0 : Nat) (x1 : Int32) (M : ao_M) (ρ : ao_H) (y : ao_S), fX2_init n 68 r0 x1 0 0 0 0 M ρ = some y → ao_W Γ uX2_init (ao_rm d MC MS) (ao_Q Γ (ao_QV y) MC MS) (ao_dc ρ y.2) (ao_ds ρ y.2) 68 [some (.ref (Γ.2.2.2 + r0)), some (.int x1)] [] (M, ρ)) := by
  intro n
  induction n with
  | zero => exact ⟨fun _ _ _ _ h => ao_no h, fun _ _ _ _ _ _ h => ao_no h, fun _ _ _ _ _ _ h => ao_no h, fun _ _ _ _ h => ao_no h, fun _ _ _ _ _ _ h => ao_no h, fun _ _ _ _ _ _ h => ao_no h, fun _ _ _ _ h => ao_no h, fun _ _ _ _ _ _ h => ao_no h, fun _ _ _ _ _ _ h => ao_no h, fun _ _ _ _ h => ao_no h, fun _ _ _ _ _ _ h => ao_no h, fun _ _ _ _ h => ao_no h, fun _ _ _ _ _ h => ao_no h, fun _ _ _ _ _ _ _ _ h => ao_no h, fun _ _ _ _ _ _ _ _ h => ao_no h, fun _ _ _ _ _ h => ao_no h⟩
  | succ n ih =>
    refine ⟨?_, ?_, ?_, ?_, ?_, ?_, ?_, ?_, ?_, ?_, ?_, ?_, ?_, ?_, ?_, ?_⟩
    · intro r0 M ρ y h
      replace h := ao_ifT h rfl
      refine ao_aload_n 0 dX2_init_0 rfl rfl ?_
      refine bi_obj dX2_init_1 loi_X2_3 (Nat.le_of_ble_eq_true rfl) (ao_cpR (by omega)) ?_
      refine ao_aload_n 0 dX2_init_4 rfl rfl ?_
      obtain ⟨n1, hn1, h⟩ := ao_bind h
      refine ba_new n1 5 (q := (RX5, TX5, 11)) dX2_init_5 rfl hn1 lnw_X2_9 (ao_dc_nw ((mX2_init n).2.1 r0 n1 r0 (ao_zr M n1) (ao_nw ρ n1 15 0 11) _ h)) ?_
      exact ih.2.1 r0 n1 r0 (ao_zr M n1) (ao_nw ρ n1 15 0 11) _ h
    · intro r0 q0 q1 M ρ y h
      replace h := ao_ifF h (by decide)
      replace h := ao_ifT h rfl
      refine ao_dup dX2_init_8 rfl ?_
      obtain ⟨p2, hp2, h⟩ := ao_bind h
      refine bi_callI q0 [] (aX5_init (d - 1) (by omega) n q0 M ρ hp2) dX2_init_9 lc_X2_11 li_X5_init rfl rfl rfl (Nat.le_of_ble_eq_true rfl) (ao_hR (by omega) (by decide)) (ao_leC (me_X5_init n q0 M ρ hp2) ((mX2_init n).2.2.1 r0 q0 q1 p2.1 p2.2 _ h)) (ao_leS (me_X5_init n q0 M ρ hp2) ((mX2_init n).2.2.1 r0 q0 q1 p2.1 p2.2 _ h)) ?_
      exact ih.2.2.1 r0 q0 q1 p2.1 p2.2 _ h
    · intro r0 q0 q1 M ρ y h
      replace h := ao_ifF h (by decide)
      replace h := ao_ifF h (by decide)
      replace h := ao_ifT h rfl
      obtain ⟨hk3, h⟩ := ao_some h
      refine ba_putR q1 2 0 (q := (RX2, TX2, 7)) dX2_init_12 rfl hk3 (Nat.le_of_ble_eq_true rfl) lf_X2_12 (Or.inr ⟨rfl, rfl⟩) rfl rfl rfl ?_
      exact ih.2.2.2.1 r0 M (ao_r ρ q1 0 (some q0)) _ h
    · intro r0 M ρ y h
      replace h := ao_ifF h (by decide)
      replace h := ao_ifF h (by decide)
      replace h := ao_ifF h (by decide)
      replace h := ao_ifT h rfl
      refine ao_aload_n 0 dX2_init_15 rfl rfl ?_
      obtain ⟨n4, hn4, h⟩ := ao_bind h
      refine ba_new n4 8 (q := (RX8, TX8, 3)) dX2_init_16 rfl hn4 lnw_X2_18 (ao_dc_nw ((mX2_init n).2.2.2.2.1 r0 n4 r0 (ao_zr M n4) (ao_nw ρ n4 18 0 3) _ h)) ?_
      exact ih.2.2.2.2.1 r0 n4 r0 (ao_zr M n4) (ao_nw ρ n4 18 0 3) _ h
    · intro r0 q0 q1 M ρ y h
      replace h := ao_ifF h (by decide)
      replace h := ao_ifF h (by decide)
      replace h := ao_ifF h (by decide)
      replace h := ao_ifF h (by decide)
      replace h := ao_ifT h rfl
      refine ao_dup dX2_init_19 rfl ?_
      obtain ⟨p5, hp5, h⟩ := ao_bind h
      refine bi_callI q0 [] (aX8_init (d - 1) (by omega) n q0 M ρ hp5) dX2_init_20 lc_X2_20 li_X8_init rfl rfl rfl (Nat.le_of_ble_eq_true rfl) (ao_hR (by omega) (by decide)) (ao_leC (me_X8_init n q0 M ρ hp5) ((mX2_init n).2.2.2.2.2.1 r0 q0 q1 p5.1 p5.2 _ h)) (ao_leS (me_X8_init n q0 M ρ hp5) ((mX2_init n).2.2.2.2.2.1 r0 q0 q1 p5.1 p5.2 _ h)) ?_
      exact ih.2.2.2.2.2.1 r0 q0 q1 p5.1 p5.2 _ h
    · intro r0 q0 q1 M ρ y h
      replace h := ao_ifF h (by decide)
      replace h := ao_ifF h (by decide)
      replace h := ao_ifF h (by decide)
      replace h := ao_ifF h (by decide)
      replace h := ao_ifF h (by decide)
      replace h := ao_ifT h rfl
      obtain ⟨hk6, h⟩ := ao_some h
      refine ba_putR q1 2 2 (q := (RX2, TX2, 7)) dX2_init_23 rfl hk6 (Nat.le_of_ble_eq_true rfl) lf_X2_21 (Or.inr ⟨rfl, rfl⟩) rfl rfl rfl ?_
      exact ih.2.2.2.2.2.2.1 r0 M (ao_r ρ q1 2 (some q0)) _ h
    · intro r0 M ρ y h
      replace h := ao_ifF h (by decide)
      replace h := ao_ifF h (by decide)
      replace h := ao_ifF h (by decide)
      replace h := ao_ifF h (by decide)
      replace h := ao_ifF h (by decide)
      replace h := ao_ifF h (by decide)
      replace h := ao_ifT h rfl
      refine ao_aload_n 0 dX2_init_26 rfl rfl ?_
      obtain ⟨n7, hn7, h⟩ := ao_bind h
      refine ba_new n7 6 (q := (RX6, TX6, 11)) dX2_init_27 rfl hn7 lnw_X2_25 (ao_dc_nw ((mX2_init n).2.2.2.2.2.2.2.1 r0 n7 r0 (ao_zr M n7) (ao_nw ρ n7 16 0 11) _ h)) ?_
      exact ih.2.2.2.2.2.2.2.1 r0 n7 r0 (ao_zr M n7) (ao_nw ρ n7 16 0 11) _ h
    · intro r0 q0 q1 M ρ y h
      replace h := ao_ifF h (by decide)
      replace h := ao_ifF h (by decide)
      replace h := ao_ifF h (by decide)
      replace h := ao_ifF h (by decide)
      replace h := ao_ifF h (by decide)
      replace h := ao_ifF h (by decide)
      replace h := ao_ifF h (by decide)
      replace h := ao_ifT h rfl
      refine ao_dup dX2_init_30 rfl ?_
      obtain ⟨p8, hp8, h⟩ := ao_bind h
      refine bi_callI q0 [] (aX6_init (d - 1) (by omega) n q0 M ρ hp8) dX2_init_31 lc_X2_27 li_X6_init rfl rfl rfl (Nat.le_of_ble_eq_true rfl) (ao_hR (by omega) (by decide)) (ao_leC (me_X6_init n q0 M ρ hp8) ((mX2_init n).2.2.2.2.2.2.2.2.1 r0 q0 q1 p8.1 p8.2 _ h)) (ao_leS (me_X6_init n q0 M ρ hp8) ((mX2_init n).2.2.2.2.2.2.2.2.1 r0 q0 q1 p8.1 p8.2 _ h)) ?_
      exact ih.2.2.2.2.2.2.2.2.1 r0 q0 q1 p8.1 p8.2 _ h
    · intro r0 q0 q1 M ρ y h
      replace h := ao_ifF h (by decide)
      replace h := ao_ifF h (by decide)
      replace h := ao_ifF h (by decide)
      replace h := ao_ifF h (by decide)
      replace h := ao_ifF h (by decide)
      replace h := ao_ifF h (by decide)
      replace h := ao_ifF h (by decide)
      replace h := ao_ifF h (by decide)
      replace h := ao_ifT h rfl
      obtain ⟨hk9, h⟩ := ao_some h
      refine ba_putR q1 2 3 (q := (RX2, TX2, 7)) dX2_init_34 rfl hk9 (Nat.le_of_ble_eq_true rfl) lf_X2_28 (Or.inr ⟨rfl, rfl⟩) rfl rfl rfl ?_
      exact ih.2.2.2.2.2.2.2.2.2.1 r0 M (ao_r ρ q1 3 (some q0)) _ h
    · intro r0 M ρ y h
      replace h := ao_ifF h (by decide)
      replace h := ao_ifF h (by decide)
      replace h := ao_ifF h (by decide)
      replace h := ao_ifF h (by decide)
      replace h := ao_ifF h (by decide)
      replace h := ao_ifF h (by decide)
      replace h := ao_ifF h (by decide)
      replace h := ao_ifF h (by decide)
      replace h := ao_ifF h (by decide)
      replace h := ao_ifT h rfl
      refine ao_aload_n 0 dX2_init_37 rfl rfl ?_
      refine ao_bipush (v := 6) dX2_init_38 (by decide) ?_
      obtain ⟨n10, hn10, h⟩ := ao_bind h
      obtain ⟨hb11, h⟩ := ao_some h
      refine bi_anew n10 4 dX2_init_40 (by decide) hn10 lan_X2_32 hb11.1 hb11.2 (ao_dc_nw ((mX2_init n).2.2.2.2.2.2.2.2.2.2.1 r0 n10 r0 (ao_zr M n10) (ao_nw ρ n10 4 (6 : Int32).toNatClampNeg (6 : Int32).toNatClampNeg) _ h)) ?_
      exact ih.2.2.2.2.2.2.2.2.2.2.1 r0 n10 r0 (ao_zr M n10) (ao_nw ρ n10 4 (6 : Int32).toNatClampNeg (6 : Int32).toNatClampNeg) _ h
    · intro r0 q0 q1 M ρ y h
      replace h := ao_ifF h (by decide)
      replace h := ao_ifF h (by decide)
      replace h := ao_ifF h (by decide)
      replace h := ao_ifF h (by decide)
      replace h := ao_ifF h (by decide)
      replace h := ao_ifF h (by decide)
      replace h := ao_ifF h (by decide)
      replace h := ao_ifF h (by decide)
      replace h := ao_ifF h (by decide)
      replace h := ao_ifF h (by decide)
      replace h := ao_ifT h rfl
      obtain ⟨hk12, h⟩ := ao_some h
      refine ba_putR q1 2 1 (q := (RX2, TX2, 7)) dX2_init_43 rfl hk12 (Nat.le_of_ble_eq_true rfl) lf_X2_34 (Or.inr ⟨rfl, rfl⟩) rfl rfl rfl ?_
      exact ih.2.2.2.2.2.2.2.2.2.2.2.1 r0 M (ao_r ρ q1 1 (some q0)) _ h
    · intro r0 M ρ y h
      replace h := ao_ifF h (by decide)
      replace h := ao_ifF h (by decide)
      replace h := ao_ifF h (by decide)
      replace h := ao_ifF h (by decide)
      replace h := ao_ifF h (by decide)
      replace h := ao_ifF h (by decide)
      replace h := ao_ifF h (by decide)
      replace h := ao_ifF h (by decide)
      replace h := ao_ifF h (by decide)
      replace h := ao_ifF h (by decide)
      replace h := ao_ifF h (by decide)
      replace h := ao_ifT h rfl
      refine ao_iconst (v := 0) dX2_init_46 (by decide) ?_
      refine ao_istore_n 1 (lo' := [some (.ref (Γ.2.2.2 + r0)), some (.int (0 : Int32))]) dX2_init_47 rfl (Nat.le_of_ble_eq_true rfl) rfl ?_
      exact ih.2.2.2.2.2.2.2.2.2.2.2.2.1 r0 (0 : Int32) M ρ _ h
    · intro r0 x1 M ρ y h
      replace h := ao_ifF h (by decide)
      replace h := ao_ifF h (by decide)
      replace h := ao_ifF h (by decide)
      replace h := ao_ifF h (by decide)
      replace h := ao_ifF h (by decide)
      replace h := ao_ifF h (by decide)
      replace h := ao_ifF h (by decide)
      replace h := ao_ifF h (by decide)
      replace h := ao_ifF h (by decide)
      replace h := ao_ifF h (by decide)
      replace h := ao_ifF h (by decide)
      replace h := ao_ifF h (by decide)
      replace h := ao_ifT h rfl
      refine ao_iload_n 1 dX2_init_48 rfl rfl ?_
      refine ao_bipush (v := 6) dX2_init_49 (by decide) ?_
      refine ao_icmp_ge 74 dX2_init_51 (by decide) (fun c13 => ?_) (fun c13 => ?_)
      · replace h := ao_ifT h c13
        refine ao_aload_n 0 dX2_init_74 rfl rfl ?_
        refine ao_iconst (v := 0) dX2_init_75 (by decide) ?_
        obtain ⟨hk14, h⟩ := ao_some h
        refine an_putI r0 2 5 (q := (RX2, TX2, 7)) dX2_init_76 rfl hk14 (Nat.le_of_ble_eq_true rfl) lf_X2_41 rfl rfl rfl rfl (fun M15 hM15 => ?_)
        replace h := ao_letD h hM15
        cases h
        exact ao_return dX2_init_79 rfl ⟨rfl, rfl⟩
      · replace h := ao_ifF h c13
        refine ao_aload_n 0 dX2_init_54 rfl rfl ?_
        obtain ⟨hk16, h⟩ := ao_some h
        obtain ⟨j17, hj17, h⟩ := ao_bind h
        refine an_getR r0 2 1 (q := (RX2, TX2, 7)) dX2_init_55 rfl hk16 (Nat.le_of_ble_eq_true rfl) rfl lf_X2_34 hj17 ?_
        refine ao_iload_n 1 dX2_init_58 rfl rfl ?_
        obtain ⟨n18, hn18, h⟩ := ao_bind h
        refine ba_new n18 7 (q := (RX7, TX7, 20)) dX2_init_59 rfl hn18 lnw_X2_32 (ao_dc_nw ((mX2_init n).2.2.2.2.2.2.2.2.2.2.2.2.2.1 r0 x1 n18 x1 j17 (ao_zr M n18) (ao_nw ρ n18 17 0 20) _ h)) ?_
        exact ih.2.2.2.2.2.2.2.2.2.2.2.2.2.1 r0 x1 n18 x1 j17 (ao_zr M n18) (ao_nw ρ n18 17 0 20) _ h
    · intro r0 x1 q0 s1 q2 M ρ y h
      replace h := ao_ifF h (by decide)
      replace h := ao_ifF h (by decide)
      replace h := ao_ifF h (by decide)
      replace h := ao_ifF h (by decide)
      replace h := ao_ifF h (by decide)
      replace h := ao_ifF h (by decide)
      replace h := ao_ifF h (by decide)
      replace h := ao_ifF h (by decide)
      replace h := ao_ifF h (by decide)
      replace h := ao_ifF h (by decide)
      replace h := ao_ifF h (by decide)
      replace h := ao_ifF h (by decide)
      replace h := ao_ifF h (by decide)
      replace h := ao_ifT h rfl
      refine ao_dup dX2_init_62 rfl ?_
      refine ao_iload_n 1 dX2_init_63 rfl rfl ?_
      obtain ⟨p19, hp19, h⟩ := ao_bind h
      refine bi_callI q0 [.int x1] (aX7_init (d - 1) (by omega) n q0 x1 M ρ hp19) dX2_init_64 lc_X2_38 li_X7_init rfl rfl rfl (Nat.le_of_ble_eq_true rfl) (ao_hR (by omega) (by decide)) (ao_leC (me_X7_init n q0 x1 M ρ hp19) ((mX2_init n).2.2.2.2.2.2.2.2.2.2.2.2.2.2.1 r0 x1 q0 s1 q2 p19.1 p19.2 _ h)) (ao_leS (me_X7_init n q0 x1 M ρ hp19) ((mX2_init n).2.2.2.2.2.2.2.2.2.2.2.2.2.2.1 r0 x1 q0 s1 q2 p19.1 p19.2 _ h)) ?_
      exact ih.2.2.2.2.2.2.2.2.2.2.2.2.2.2.1 r0 x1 q0 s1 q2 p19.1 p19.2 _ h
    · intro r0 x1 q0 s1 q2 M ρ y h
      replace h := ao_ifF h (by decide)
      replace h := ao_ifF h (by decide)
      replace h := ao_ifF h (by decide)
      replace h := ao_ifF h (by decide)
      replace h := ao_ifF h (by decide)
      replace h := ao_ifF h (by decide)
      replace h := ao_ifF h (by decide)
      replace h := ao_ifF h (by decide)
      replace h := ao_ifF h (by decide)
      replace h := ao_ifF h (by decide)
      replace h := ao_ifF h (by decide)
      replace h := ao_ifF h (by decide)
      replace h := ao_ifF h (by decide)
      replace h := ao_ifF h (by decide)
      replace h := ao_ifT h rfl
      obtain ⟨hk20, h⟩ := ao_some h
      obtain ⟨hk21, h⟩ := ao_some h
      obtain ⟨hb22, h⟩ := ao_some h
      refine bi_aast2 q2 q0 4 7 dX2_init_67 hk20 rfl rfl hk21 hb22 (by decide) ?_
      exact ih.2.2.2.2.2.2.2.2.2.2.2.2.2.2.2 r0 x1 M (ao_r ρ q2 s1.toNatClampNeg (some q0)) _ h
    · intro r0 x1 M ρ y h
      replace h := ao_ifF h (by decide)
      replace h := ao_ifF h (by decide)
      replace h := ao_ifF h (by decide)
      replace h := ao_ifF h (by decide)
      replace h := ao_ifF h (by decide)
      replace h := ao_ifF h (by decide)
      replace h := ao_ifF h (by decide)
      replace h := ao_ifF h (by decide)
      replace h := ao_ifF h (by decide)
      replace h := ao_ifF h (by decide)
      replace h := ao_ifF h (by decide)
      replace h := ao_ifF h (by decide)
      replace h := ao_ifF h (by decide)
      replace h := ao_ifF h (by decide)
      replace h := ao_ifF h (by decide)
      replace h := ao_ifT h rfl
      obtain ⟨v23, hv23⟩ : ∃ z : Int32, z = x1 + (1 : Int32) := ⟨_, rfl⟩
      replace h := ao_letD h hv23
      refine ao_iinc 1 (v := v23) (lo' := [some (.ref (Γ.2.2.2 + r0)), some (.int v23)]) dX2_init_68 rfl (by rw [hv23]; rfl) (Nat.le_of_ble_eq_true rfl) rfl ?_
      refine ao_goto 48 dX2_init_71 (by decide) ?_
      exact ih.2.2.2.2.2.2.2.2.2.2.2.2.1 r0 v23 M ρ _ h
theorem me_X2_init (n : Nat) (r0 : Nat) (M : ao_M) (ρ : ao_H) {y : ao_S} (h : gX2_init n r0 M ρ = some y) : ao_le ρ y.2 := (mX2_init n).1 r0 M ρ y h
set_option maxRecDepth 100000 in
set_option maxHeartbeats 4000000 in
theorem aX2_init {Γ : ao_C} (d : Nat) (hd : 3 ≤ d) (n : Nat) (r0 : Nat) (M : ao_M) (ρ : ao_H) {y : ao_S} (h : gX2_init n r0 M ρ = some y) : ao_A Γ uX2_init d (ao_dc ρ y.2) (ao_ds ρ y.2) [.ref (Γ.2.2.2 + r0)] (M, ρ) (ao_QV y) := by
  refine ao_of (by decide) (ao_cat1 (Nat.le_of_ble_eq_true rfl)) (Nat.le_of_ble_eq_true rfl) ?_
  show ao_W Γ uX2_init (ao_rm d (ao_dc ρ y.2) (ao_ds ρ y.2)) (ao_Q Γ (ao_QV y) (ao_dc ρ y.2) (ao_ds ρ y.2)) (ao_dc ρ y.2) (ao_ds ρ y.2) 0 [some (.ref (Γ.2.2.2 + r0)), none] [] (M, ρ)
  exact (wX2_init d hd _ _ n).1 r0 M ρ y h

abbrev uX2_startAgain : ao_Mi := (yX2_startAgain, cX2_startAgain, 3, none, [])
def fX2_startAgain : Nat → Nat → Nat → Int32 → Int32 →  ao_M → ao_H → Option (ao_M)
  | 0, _, _, _, _, _, _ => none
  | n + 1, pc, r0, x1, x2, M, ρ =>
    if pc = 0 then
      if ρ.2.1 r0 = 12 then
      ao_let (ao_u M r0 5 x1) fun M2 =>
      ao_let (ao_u M2 r0 4 (0 : Int32)) fun M3 =>
      (ρ.1 r0 0).bind fun j4 =>
      if ρ.2.1 j4 = 15 then
      (gX5_clear n j4 M3 ρ).bind fun p6 =>
      (ρ.1 r0 2).bind fun j7 =>
      if ρ.2.1 j7 = 18 then
      ao_let (ao_u p6 j7 2 (0 : Int32)) fun M9 =>
      (ρ.1 r0 3).bind fun j10 =>
      if ρ.2.1 j10 = 16 then
      (gX6_clear j10 M9 ρ).bind fun p12 =>
      fX2_startAgain n 34 r0 x1 (0 : Int32) p12 ρ
      else none
      else none
      else none
      else none
    else if pc = 34 then
      if (6 : Int32) ≤ x2 then
        some M
      else
        if ρ.2.1 r0 = 12 then
        (ρ.1 r0 1).bind fun j15 =>
        if ρ.2.1 j15 = 4 then
        if ¬ (x2 < 0 ∨ ρ.2.2.1 j15 ≤ x2.toNatClampNeg) then
        (ρ.1 j15 x2.toNatClampNeg).bind fun j18 =>
        if ρ.2.1 j18 = 17 then
        if (M j18 2) = 0 then
          fX2_startAgain n 61 r0 x1 x2 M ρ
        else
          (gX7_renew n j18 M ρ).bind fun p21 =>
          fX2_startAgain n 61 r0 x1 x2 p21 ρ
        else none
        else none
        else none
        else none
    else if pc = 61 then
      ao_let (x2 + (1 : Int32)) fun v22 =>
      fX2_startAgain n 34 r0 x1 v22 M ρ
    else none
def gX2_startAgain (n : Nat) (r0 : Nat) (x1 : Int32) (M : ao_M) (ρ : ao_H) : Option (ao_M) := fX2_startAgain n 0 r0 x1 0 M ρ
set_option maxRecDepth 100000 in
set_option maxHeartbeats 4000000 in
theorem wX2_startAgain {Γ : ao_C} {ρ : ao_H} (d : Nat) (hd : 2 ≤ d) : ∀ n : Nat, (∀ (r0 : Nat) (x1 : Int32) (M : ao_M) (y : ao_M), fX2_startAgain n 0 r0 x1 0 M ρ = some y → ao_W Γ uX2_startAgain (ao_rm d 0 0) (ao_Q Γ (ao_PV ρ y) 0 0) 0 0 0 [some (.ref (Γ.2.2.2 + r0)), some (.int x1), none] [] (M, ρ)) ∧ (∀ (r0 : Nat) (x1 : Int32) (x2 : Int32) (M : ao_M) (y : ao_M), fX2_startAgain n 34 r0 x1 x2 M ρ = some y → ao_W Γ uX2_startAgain (ao_rm d 0 0) (ao_Q Γ (ao_PV ρ y) 0 0) 0 0 34 [some (.ref (Γ.2.2.2 + r0)), some (.int x1), some (.int x2)] [] (M, ρ)) ∧ (∀ (r0 : Nat) (x1 : Int32) (x2 : Int32) (M : ao_M) (y : ao_M), fX2_startAgain n 61 r0 x1 x2 M ρ = some y → ao_W Γ uX2_startAgain (ao_rm d 0 0) (ao_Q Γ (ao_PV ρ y) 0 0) 0 0 61 [some (.ref (Γ.2.2.2 + r0)), some (.int x1), some (.int x2)] [] (M, ρ)) := by
  intro n
  induction n with
  | zero => exact ⟨fun _ _ _ _ h => ao_no h, fun _ _ _ _ _ h => ao_no h, fun _ _ _ _ _ h => ao_no h⟩
  | succ n ih =>
    refine ⟨?_, ?_, ?_⟩
    · intro r0 x1 M y h
      replace h := ao_ifT h rfl
      refine ao_aload_n 0 dX2_startAgain_0 rfl rfl ?_
      refine ao_iload_n 1 dX2_startAgain_1 rfl rfl ?_
      obtain ⟨hk1, h⟩ := ao_some h
      refine an_putI r0 2 5 (q := (RX2, TX2, 7)) dX2_startAgain_2 rfl hk1 (Nat.le_of_ble_eq_true rfl) lf_X2_41 rfl rfl rfl rfl (fun M2 hM2 => ?_)
      replace h := ao_letD h hM2
      refine ao_aload_n 0 dX2_startAgain_5 rfl rfl ?_
      refine ao_iconst (v := 0) dX2_startAgain_6 (by decide) ?_
      refine an_putI r0 2 4 (q := (RX2, TX2, 7)) dX2_startAgain_7 rfl hk1 (Nat.le_of_ble_eq_true rfl) lf_X2_45 rfl rfl rfl rfl (fun M3 hM3 => ?_)
      replace h := ao_letD h hM3
      refine ao_aload_n 0 dX2_startAgain_10 rfl rfl ?_
      obtain ⟨j4, hj4, h⟩ := ao_bind h
      refine an_getR r0 2 0 (q := (RX2, TX2, 7)) dX2_startAgain_11 rfl hk1 (Nat.le_of_ble_eq_true rfl) rfl lf_X2_12 hj4 ?_
      obtain ⟨hk5, h⟩ := ao_some h
      obtain ⟨p6, hp6, h⟩ := ao_bind h
      refine an_callVv j4 5 (q := (RX5, TX5, 11)) [] (aX5_clear (d - 1) (by omega) _ j4 M3 ρ hp6) dX2_startAgain_14 lc_X2_48 li_X5_clear ls_X5_clear rfl hk5 rfl rfl (Nat.le_of_ble_eq_true rfl) (ao_hR (by omega) (by decide)) ?_
      refine ao_aload_n 0 dX2_startAgain_17 rfl rfl ?_
      obtain ⟨j7, hj7, h⟩ := ao_bind h
      refine an_getR r0 2 2 (q := (RX2, TX2, 7)) dX2_startAgain_18 rfl hk1 (Nat.le_of_ble_eq_true rfl) rfl lf_X2_21 hj7 ?_
      refine ao_iconst (v := 0) dX2_startAgain_21 (by decide) ?_
      obtain ⟨hk8, h⟩ := ao_some h
      refine an_putI j7 8 2 (q := (RX8, TX8, 3)) dX2_startAgain_22 rfl hk8 (Nat.le_of_ble_eq_true rfl) lf_X2_51 rfl rfl rfl rfl (fun M9 hM9 => ?_)
      replace h := ao_letD h hM9
      refine ao_aload_n 0 dX2_startAgain_25 rfl rfl ?_
      obtain ⟨j10, hj10, h⟩ := ao_bind h
      refine an_getR r0 2 3 (q := (RX2, TX2, 7)) dX2_startAgain_26 rfl hk1 (Nat.le_of_ble_eq_true rfl) rfl lf_X2_28 hj10 ?_
      obtain ⟨hk11, h⟩ := ao_some h
      obtain ⟨p12, hp12, h⟩ := ao_bind h
      refine an_callVv j10 6 (q := (RX6, TX6, 11)) [] (aX6_clear (d - 1) (by omega) j10 M9 ρ hp12) dX2_startAgain_29 lc_X2_54 li_X6_clear ls_X6_clear rfl hk11 rfl rfl (Nat.le_of_ble_eq_true rfl) (ao_hR (by omega) (by decide)) ?_
      refine ao_iconst (v := 0) dX2_startAgain_32 (by decide) ?_
      refine ao_istore_n 2 (lo' := [some (.ref (Γ.2.2.2 + r0)), some (.int x1), some (.int (0 : Int32))]) dX2_startAgain_33 rfl (Nat.le_of_ble_eq_true rfl) rfl ?_
      exact ih.2.1 r0 x1 (0 : Int32) p12 _ h
    · intro r0 x1 x2 M y h
      replace h := ao_ifF h (by decide)
      replace h := ao_ifT h rfl
      refine ao_iload_n 2 dX2_startAgain_34 rfl rfl ?_
      refine ao_bipush (v := 6) dX2_startAgain_35 (by decide) ?_
      refine ao_icmp_ge 67 dX2_startAgain_37 (by decide) (fun c13 => ?_) (fun c13 => ?_)
      · replace h := ao_ifT h c13
        cases h
        exact ao_return dX2_startAgain_67 rfl ⟨rfl, rfl⟩
      · replace h := ao_ifF h c13
        refine ao_aload_n 0 dX2_startAgain_40 rfl rfl ?_
        obtain ⟨hk14, h⟩ := ao_some h
        obtain ⟨j15, hj15, h⟩ := ao_bind h
        refine an_getR r0 2 1 (q := (RX2, TX2, 7)) dX2_startAgain_41 rfl hk14 (Nat.le_of_ble_eq_true rfl) rfl lf_X2_34 hj15 ?_
        refine ao_iload_n 2 dX2_startAgain_44 rfl rfl ?_
        obtain ⟨hk16, h⟩ := ao_some h
        obtain ⟨hb17, h⟩ := ao_some h
        obtain ⟨j18, hj18, h⟩ := ao_bind h
        refine an_aaload j15 4 dX2_startAgain_45 hk16 (by decide) hb17 hj18 ?_
        obtain ⟨hk19, h⟩ := ao_some h
        refine an_getI j18 7 2 (q := (RX7, TX7, 20)) dX2_startAgain_46 rfl hk19 (Nat.le_of_ble_eq_true rfl) rfl lf_X2_55 ?_
        refine ao_if_eq 61 dX2_startAgain_49 (by decide) (fun c20 => ?_) (fun c20 => ?_)
        · replace h := ao_ifT h c20
          exact ih.2.2 r0 x1 x2 M _ h
        · replace h := ao_ifF h c20
          refine ao_aload_n 0 dX2_startAgain_52 rfl rfl ?_
          refine an_getR r0 2 1 (q := (RX2, TX2, 7)) dX2_startAgain_53 rfl hk14 (Nat.le_of_ble_eq_true rfl) rfl lf_X2_34 hj15 ?_
          refine ao_iload_n 2 dX2_startAgain_56 rfl rfl ?_
          refine an_aaload j15 4 dX2_startAgain_57 hk16 (by decide) hb17 hj18 ?_
          obtain ⟨p21, hp21, h⟩ := ao_bind h
          refine an_callVv j18 7 (q := (RX7, TX7, 20)) [] (aX7_renew (d - 1) (by omega) _ j18 M ρ hp21) dX2_startAgain_58 lc_X2_58 li_X7_renew ls_X7_renew rfl hk19 rfl rfl (Nat.le_of_ble_eq_true rfl) (ao_hR (by omega) (by decide)) ?_
          exact ih.2.2 r0 x1 x2 p21 _ h
    · intro r0 x1 x2 M y h
      replace h := ao_ifF h (by decide)
      replace h := ao_ifF h (by decide)
      replace h := ao_ifT h rfl
      obtain ⟨v22, hv22⟩ : ∃ z : Int32, z = x2 + (1 : Int32) := ⟨_, rfl⟩
      replace h := ao_letD h hv22
      refine ao_iinc 2 (v := v22) (lo' := [some (.ref (Γ.2.2.2 + r0)), some (.int x1), some (.int v22)]) dX2_startAgain_61 rfl (by rw [hv22]; rfl) (Nat.le_of_ble_eq_true rfl) rfl ?_
      refine ao_goto 34 dX2_startAgain_64 (by decide) ?_
      exact ih.2.1 r0 x1 v22 M _ h
set_option maxRecDepth 100000 in
set_option maxHeartbeats 4000000 in
theorem aX2_startAgain {Γ : ao_C} (d : Nat) (hd : 2 ≤ d) (n : Nat) (r0 : Nat) (x1 : Int32) (M : ao_M) (ρ : ao_H) {y : ao_M} (h : gX2_startAgain n r0 x1 M ρ = some y) : ao_A Γ uX2_startAgain d 0 0 [.ref (Γ.2.2.2 + r0), .int x1] (M, ρ) (ao_PV ρ y) := by
  refine ao_of (by decide) (ao_cat1 (Nat.le_of_ble_eq_true rfl)) (Nat.le_of_ble_eq_true rfl) ?_
  show ao_W Γ uX2_startAgain (ao_rm d 0 0) (ao_Q Γ (ao_PV ρ y) 0 0) 0 0 0 [some (.ref (Γ.2.2.2 + r0)), some (.int x1), none] [] (M, ρ)
  exact (wX2_startAgain d hd n).1 r0 x1 M y h

abbrev uX2_outermostWrong : ao_Mi := (yX2_outermostWrong, cX2_outermostWrong, 5, (some .int), [])
def fX2_outermostWrong : Nat → Nat → Nat → Nat → Int32 → Nat → Int32 →  ao_M → ao_H → Option (Int32 × ao_M)
  | 0, _, _, _, _, _, _, _, _ => none
  | n + 1, pc, r0, r1, x2, r3, x4, M, ρ =>
    if pc = 0 then
      if ρ.2.1 r0 = 12 then
      if (M r0 5) = (1 : Int32) then
        (ρ.1 r0 0).bind fun j3 =>
        if ρ.2.1 j3 = 15 then
        if ρ.2.1 r1 = 17 then
        if (M j3 4) = (M r1 14) then
          some ((-1 : Int32), M)
        else
          fX2_outermostWrong n 24 r0 r1 0 0 0 M ρ
        else none
        else none
      else
        fX2_outermostWrong n 24 r0 r1 0 0 0 M ρ
      else none
    else if pc = 24 then
      fX2_outermostWrong n 26 r0 r1 (0 : Int32) 0 0 M ρ
    else if pc = 26 then
      if ρ.2.1 r1 = 17 then
      if (M r1 8) ≤ x2 then
        some ((-1 : Int32), M)
      else
        (gX7_level n r1 x2 M ρ).bind fun p9 =>
        fX2_outermostWrong n 43 r0 r1 x2 p9.1 (0 : Int32) p9.2 ρ
      else none
    else if pc = 43 then
      if ρ.2.1 r3 = 13 then
      if (M r3 3) ≤ x4 then
        fX2_outermostWrong n 78 r0 r1 x2 r3 x4 M ρ
      else
        if (26 : Int32) ≤ x4 then
          fX2_outermostWrong n 78 r0 r1 x2 r3 x4 M ρ
        else
          if ρ.2.1 r0 = 12 then
          (gX2_isWrong n r0 r1 r3 x4 M ρ).bind fun p14 =>
          if p14.1 = 0 then
            ao_let (x4 + (1 : Int32)) fun v16 =>
            fX2_outermostWrong n 43 r0 r1 x2 r3 v16 p14.2 ρ
          else
            some (x2, p14.2)
          else none
      else none
    else if pc = 78 then
      ao_let (x2 + (1 : Int32)) fun v17 =>
      fX2_outermostWrong n 26 r0 r1 v17 0 0 M ρ
    else none
def gX2_outermostWrong (n : Nat) (r0 : Nat) (r1 : Nat) (M : ao_M) (ρ : ao_H) : Option (Int32 × ao_M) := fX2_outermostWrong n 0 r0 r1 0 0 0 M ρ
set_option maxRecDepth 100000 in
set_option maxHeartbeats 4000000 in
theorem wX2_outermostWrong {Γ : ao_C} {ρ : ao_H} (d : Nat) (hd : 2 ≤ d) : ∀ n : Nat, (∀ (r0 : Nat) (r1 : Nat) (M : ao_M) (y : Int32 × ao_M), fX2_outermostWrong n 0 r0 r1 0 0 0 M ρ = some y → ao_W Γ uX2_outermostWrong (ao_rm d 0 0) (ao_Q Γ (ao_PI ρ y) 0 0) 0 0 0 [some (.ref (Γ.2.2.2 + r0)), some (.ref (Γ.2.2.2 + r1)), none, none, none] [] (M, ρ)) ∧ (∀ (r0 : Nat) (r1 : Nat) (M : ao_M) (y : Int32 × ao_M), fX2_outermostWrong n 24 r0 r1 0 0 0 M ρ = some y → ao_W Γ uX2_outermostWrong (ao_rm d 0 0) (ao_Q Γ (ao_PI ρ y) 0 0) 0 0 24 [some (.ref (Γ.2.2.2 + r0)), some (.ref (Γ.2.2.2 + r1)), none, none, none] [] (M, ρ)) ∧ (∀ (r0 : Nat) (r1 : Nat) (x2 : Int32) (M : ao_M) (y : Int32 × ao_M), fX2_outermostWrong n 26 r0 r1 x2 0 0 M ρ = some y → ao_W Γ uX2_outermostWrong (ao_rm d 0 0) (ao_Q Γ (ao_PI ρ y) 0 0) 0 0 26 [some (.ref (Γ.2.2.2 + r0)), some (.ref (Γ.2.2.2 + r1)), some (.int x2), none, none] [] (M, ρ)) ∧ (∀ (r0 : Nat) (r1 : Nat) (x2 : Int32) (r3 : Nat) (x4 : Int32) (M : ao_M) (y : Int32 × ao_M), fX2_outermostWrong n 43 r0 r1 x2 r3 x4 M ρ = some y → ao_W Γ uX2_outermostWrong (ao_rm d 0 0) (ao_Q Γ (ao_PI ρ y) 0 0) 0 0 43 [some (.ref (Γ.2.2.2 + r0)), some (.ref (Γ.2.2.2 + r1)), some (.int x2), some (.ref (Γ.2.2.2 + r3)), some (.int x4)] [] (M, ρ)) ∧ (∀ (r0 : Nat) (r1 : Nat) (x2 : Int32) (r3 : Nat) (x4 : Int32) (M : ao_M) (y : Int32 × ao_M), fX2_outermostWrong n 78 r0 r1 x2 r3 x4 M ρ = some y → ao_W Γ uX2_outermostWrong (ao_rm d 0 0) (ao_Q Γ (ao_PI ρ y) 0 0) 0 0 78 [some (.ref (Γ.2.2.2 + r0)), some (.ref (Γ.2.2.2 + r1)), some (.int x2), some (.ref (Γ.2.2.2 + r3)), some (.int x4)] [] (M, ρ)) := by
  intro n
  induction n with
  | zero => exact ⟨fun _ _ _ _ h => ao_no h, fun _ _ _ _ h => ao_no h, fun _ _ _ _ _ h => ao_no h, fun _ _ _ _ _ _ _ h => ao_no h, fun _ _ _ _ _ _ _ h => ao_no h⟩
  | succ n ih =>
    refine ⟨?_, ?_, ?_, ?_, ?_⟩
    · intro r0 r1 M y h
      replace h := ao_ifT h rfl
      refine ao_aload_n 0 dX2_outermostWrong_0 rfl rfl ?_
      obtain ⟨hk1, h⟩ := ao_some h
      refine an_getI r0 2 5 (q := (RX2, TX2, 7)) dX2_outermostWrong_1 rfl hk1 (Nat.le_of_ble_eq_true rfl) rfl lf_X2_41 ?_
      refine ao_iconst (v := 1) dX2_outermostWrong_4 (by decide) ?_
      refine ao_icmp_ne 24 dX2_outermostWrong_5 (by decide) (fun c2 => ?_) (fun c2 => ?_)
      · replace h := ao_ifF h c2
        exact ih.2.1 r0 r1 M _ h
      · replace h := ao_ifT h c2
        refine ao_aload_n 0 dX2_outermostWrong_8 rfl rfl ?_
        obtain ⟨j3, hj3, h⟩ := ao_bind h
        refine an_getR r0 2 0 (q := (RX2, TX2, 7)) dX2_outermostWrong_9 rfl hk1 (Nat.le_of_ble_eq_true rfl) rfl lf_X2_12 hj3 ?_
        obtain ⟨hk4, h⟩ := ao_some h
        refine an_getI j3 5 4 (q := (RX5, TX5, 11)) dX2_outermostWrong_12 rfl hk4 (Nat.le_of_ble_eq_true rfl) rfl lf_X2_61 ?_
        refine ao_aload_n 1 dX2_outermostWrong_15 rfl rfl ?_
        obtain ⟨hk5, h⟩ := ao_some h
        refine an_getI r1 7 14 (q := (RX7, TX7, 20)) dX2_outermostWrong_16 rfl hk5 (Nat.le_of_ble_eq_true rfl) rfl lf_X2_224 ?_
        refine ao_icmp_ne 24 dX2_outermostWrong_19 (by decide) (fun c6 => ?_) (fun c6 => ?_)
        · replace h := ao_ifF h c6
          exact ih.2.1 r0 r1 M _ h
        · replace h := ao_ifT h c6
          refine ao_iconst (v := (-1)) dX2_outermostWrong_22 (by decide) ?_
          cases h
          exact ao_ireturn dX2_outermostWrong_23 rfl rfl ⟨rfl, rfl⟩
    · intro r0 r1 M y h
      replace h := ao_ifF h (by decide)
      replace h := ao_ifT h rfl
      refine ao_iconst (v := 0) dX2_outermostWrong_24 (by decide) ?_
      refine ao_istore_n 2 (lo' := [some (.ref (Γ.2.2.2 + r0)), some (.ref (Γ.2.2.2 + r1)), some (.int (0 : Int32)), none, none]) dX2_outermostWrong_25 rfl (Nat.le_of_ble_eq_true rfl) rfl ?_
      exact ih.2.2.1 r0 r1 (0 : Int32) M _ h
    · intro r0 r1 x2 M y h
      replace h := ao_ifF h (by decide)
      replace h := ao_ifF h (by decide)
      replace h := ao_ifT h rfl
      refine ao_iload_n 2 dX2_outermostWrong_26 rfl rfl ?_
      refine ao_aload_n 1 dX2_outermostWrong_27 rfl rfl ?_
      obtain ⟨hk7, h⟩ := ao_some h
      refine an_getI r1 7 8 (q := (RX7, TX7, 20)) dX2_outermostWrong_28 rfl hk7 (Nat.le_of_ble_eq_true rfl) rfl lf_X2_165 ?_
      refine ao_icmp_ge 84 dX2_outermostWrong_31 (by decide) (fun c8 => ?_) (fun c8 => ?_)
      · replace h := ao_ifT h c8
        refine ao_iconst (v := (-1)) dX2_outermostWrong_84 (by decide) ?_
        cases h
        exact ao_ireturn dX2_outermostWrong_85 rfl rfl ⟨rfl, rfl⟩
      · replace h := ao_ifF h c8
        refine ao_aload_n 1 dX2_outermostWrong_34 rfl rfl ?_
        refine ao_iload_n 2 dX2_outermostWrong_35 rfl rfl ?_
        obtain ⟨p9, hp9, h⟩ := ao_bind h
        refine an_callVr r1 7 (q := (RX7, TX7, 20)) [.int x2] (aX7_level (d - 1) (by omega) _ r1 x2 M ρ hp9) dX2_outermostWrong_36 lc_X2_213 li_X7_level ls_X7_level rfl hk7 rfl rfl (Nat.le_of_ble_eq_true rfl) (ao_hR (by omega) (by decide)) ?_
        refine ao_astore_n 3 (lo' := [some (.ref (Γ.2.2.2 + r0)), some (.ref (Γ.2.2.2 + r1)), some (.int x2), some (.ref (Γ.2.2.2 + p9.1)), none]) dX2_outermostWrong_39 rfl (Nat.le_of_ble_eq_true rfl) rfl ?_
        refine ao_iconst (v := 0) dX2_outermostWrong_40 (by decide) ?_
        refine ao_istore 4 (lo' := [some (.ref (Γ.2.2.2 + r0)), some (.ref (Γ.2.2.2 + r1)), some (.int x2), some (.ref (Γ.2.2.2 + p9.1)), some (.int (0 : Int32))]) dX2_outermostWrong_41 (Nat.le_of_ble_eq_true rfl) rfl ?_
        exact ih.2.2.2.1 r0 r1 x2 p9.1 (0 : Int32) p9.2 _ h
    · intro r0 r1 x2 r3 x4 M y h
      replace h := ao_ifF h (by decide)
      replace h := ao_ifF h (by decide)
      replace h := ao_ifF h (by decide)
      replace h := ao_ifT h rfl
      refine ao_iload 4 dX2_outermostWrong_43 rfl ?_
      refine ao_aload_n 3 dX2_outermostWrong_45 rfl rfl ?_
      obtain ⟨hk10, h⟩ := ao_some h
      refine an_getI r3 3 3 (q := (RX3, TX3, 12)) dX2_outermostWrong_46 rfl hk10 (Nat.le_of_ble_eq_true rfl) rfl lf_X2_257 ?_
      refine ao_icmp_ge 78 dX2_outermostWrong_49 (by decide) (fun c11 => ?_) (fun c11 => ?_)
      · replace h := ao_ifT h c11
        exact ih.2.2.2.2 r0 r1 x2 r3 x4 M _ h
      · replace h := ao_ifF h c11
        refine ao_iload 4 dX2_outermostWrong_52 rfl ?_
        refine ao_bipush (v := 26) dX2_outermostWrong_54 (by decide) ?_
        refine ao_icmp_ge 78 dX2_outermostWrong_56 (by decide) (fun c12 => ?_) (fun c12 => ?_)
        · replace h := ao_ifT h c12
          exact ih.2.2.2.2 r0 r1 x2 r3 x4 M _ h
        · replace h := ao_ifF h c12
          refine ao_aload_n 0 dX2_outermostWrong_59 rfl rfl ?_
          refine ao_aload_n 1 dX2_outermostWrong_60 rfl rfl ?_
          refine ao_aload_n 3 dX2_outermostWrong_61 rfl rfl ?_
          refine ao_iload 4 dX2_outermostWrong_62 rfl ?_
          obtain ⟨hk13, h⟩ := ao_some h
          obtain ⟨p14, hp14, h⟩ := ao_bind h
          refine an_callVi r0 2 (q := (RX2, TX2, 7)) [.ref (Γ.2.2.2 + r1), .ref (Γ.2.2.2 + r3), .int x4] (aX2_isWrong (d - 1) (by omega) _ r0 r1 r3 x4 M ρ hp14) dX2_outermostWrong_64 lc_X2_260 li_X2_isWrong ls_X2_isWrong rfl hk13 rfl rfl (Nat.le_of_ble_eq_true rfl) (ao_hR (by omega) (by decide)) ?_
          refine ao_if_eq 72 dX2_outermostWrong_67 (by decide) (fun c15 => ?_) (fun c15 => ?_)
          · replace h := ao_ifT h c15
            obtain ⟨v16, hv16⟩ : ∃ z : Int32, z = x4 + (1 : Int32) := ⟨_, rfl⟩
            replace h := ao_letD h hv16
            refine ao_iinc 4 (v := v16) (lo' := [some (.ref (Γ.2.2.2 + r0)), some (.ref (Γ.2.2.2 + r1)), some (.int x2), some (.ref (Γ.2.2.2 + r3)), some (.int v16)]) dX2_outermostWrong_72 rfl (by rw [hv16]; rfl) (Nat.le_of_ble_eq_true rfl) rfl ?_
            refine ao_goto 43 dX2_outermostWrong_75 (by decide) ?_
            exact ih.2.2.2.1 r0 r1 x2 r3 v16 p14.2 _ h
          · replace h := ao_ifF h c15
            refine ao_iload_n 2 dX2_outermostWrong_70 rfl rfl ?_
            cases h
            exact ao_ireturn dX2_outermostWrong_71 rfl rfl ⟨rfl, rfl⟩
    · intro r0 r1 x2 r3 x4 M y h
      replace h := ao_ifF h (by decide)
      replace h := ao_ifF h (by decide)
      replace h := ao_ifF h (by decide)
      replace h := ao_ifF h (by decide)
      replace h := ao_ifT h rfl
      obtain ⟨v17, hv17⟩ : ∃ z : Int32, z = x2 + (1 : Int32) := ⟨_, rfl⟩
      replace h := ao_letD h hv17
      refine ao_iinc 2 (v := v17) (lo' := [some (.ref (Γ.2.2.2 + r0)), some (.ref (Γ.2.2.2 + r1)), some (.int v17), some (.ref (Γ.2.2.2 + r3)), some (.int x4)]) dX2_outermostWrong_78 rfl (by rw [hv17]; rfl) (Nat.le_of_ble_eq_true rfl) rfl ?_
      refine ao_goto 26 dX2_outermostWrong_81 (by decide) ?_
      refine ao_loForget (lo' := [some (.ref (Γ.2.2.2 + r0)), some (.ref (Γ.2.2.2 + r1)), some (.int v17), none, none]) (ao_fgS (ao_fgS (ao_fgS (ao_fgN (ao_fgN ao_fgZ))))) ?_
      exact ih.2.2.1 r0 r1 v17 M _ h
set_option maxRecDepth 100000 in
set_option maxHeartbeats 4000000 in
theorem aX2_outermostWrong {Γ : ao_C} (d : Nat) (hd : 2 ≤ d) (n : Nat) (r0 : Nat) (r1 : Nat) (M : ao_M) (ρ : ao_H) {y : Int32 × ao_M} (h : gX2_outermostWrong n r0 r1 M ρ = some y) : ao_A Γ uX2_outermostWrong d 0 0 [.ref (Γ.2.2.2 + r0), .ref (Γ.2.2.2 + r1)] (M, ρ) (ao_PI ρ y) := by
  refine ao_of (by decide) (ao_cat1 (Nat.le_of_ble_eq_true rfl)) (Nat.le_of_ble_eq_true rfl) ?_
  show ao_W Γ uX2_outermostWrong (ao_rm d 0 0) (ao_Q Γ (ao_PI ρ y) 0 0) 0 0 0 [some (.ref (Γ.2.2.2 + r0)), some (.ref (Γ.2.2.2 + r1)), none, none, none] [] (M, ρ)
  exact (wX2_outermostWrong d hd n).1 r0 r1 M y h

abbrev uX2_restart : ao_Mi := (yX2_restart, cX2_restart, 4, none, [])
def fX2_restart : Nat → Nat → Nat → Nat → Int32 → Nat →  ao_M → ao_H → Option (ao_S)
  | 0, _, _, _, _, _, _, _ => none
  | n + 1, pc, r0, r1, x2, r3, M, ρ =>
    if pc = 0 then
      if x2 < 0 then
        some (M, ρ)
      else
        if ρ.2.1 r1 = 17 then
        if x2 < (M r1 8) then
          if ρ.2.1 r0 = 12 then
          (gX2_takeBack n r0 r1 x2 M ρ).bind fun p5 =>
          (gX7_level n r1 x2 p5 ρ).bind fun p6 =>
          if ρ.2.1 p6.1 = 13 then
          (gX3_forgetReads p6.1 p6.2 ρ).bind fun p8 =>
          ao_let (ao_u p8 p6.1 9 (0 : Int32)) fun M9 =>
          ao_let (ao_u M9 r1 8 (x2 + (1 : Int32))) fun M10 =>
          if x2 = 0 then
            (ρ.1 r0 0).bind fun j12 =>
            if ρ.2.1 j12 = 15 then
            (gX5_release n j12 (M10 r1 0) M10 ρ).bind fun p14 =>
            fX2_restart n 56 r0 r1 x2 p6.1 p14.1 p14.2
            else none
          else
            fX2_restart n 64 r0 r1 x2 p6.1 M10 ρ
          else none
          else none
        else
          some (M, ρ)
        else none
    else if pc = 56 then
      if ρ.2.1 r0 = 12 then
      if ρ.2.1 r1 = 17 then
      ao_let (ao_u M r1 16 (M r0 6)) fun M17 =>
      fX2_restart n 64 r0 r1 x2 r3 M17 ρ
      else none
      else none
    else if pc = 64 then
      if ρ.2.1 r0 = 12 then
      (ρ.1 r0 0).bind fun j19 =>
      if ρ.2.1 j19 = 15 then
      if ρ.2.1 r1 = 17 then
      ao_let (ao_u M r1 14 (M j19 4)) fun M22 =>
      ao_let (ao_u M22 r1 17 ((M22 r1 17) + (1 : Int32))) fun M23 =>
      if ρ.2.1 r3 = 13 then
      ao_let (ao_u M23 r1 3 ((M23 r3 8) + (1 : Int32))) fun M25 =>
      some (M25, ρ)
      else none
      else none
      else none
      else none
    else none
def gX2_restart (n : Nat) (r0 : Nat) (r1 : Nat) (x2 : Int32) (M : ao_M) (ρ : ao_H) : Option (ao_S) := fX2_restart n 0 r0 r1 x2 0 M ρ
set_option maxRecDepth 100000 in
set_option maxHeartbeats 4000000 in
theorem mX2_restart : ∀ n : Nat, (∀ (r0 : Nat) (r1 : Nat) (x2 : Int32) (M : ao_M) (ρ : ao_H) (y : ao_S), fX2_restart n 0 r0 r1 x2 0 M ρ = some y → ao_le ρ y.2) ∧ (∀ (r0 : Nat) (r1 : Nat) (x2 : Int32) (r3 : Nat) (M : ao_M) (ρ : ao_H) (y : ao_S), fX2_restart n 56 r0 r1 x2 r3 M ρ = some y → ao_le ρ y.2) ∧ (∀ (r0 : Nat) (r1 : Nat) (x2 : Int32) (r3 : Nat) (M : ao_M) (ρ : ao_H) (y : ao_S), fX2_restart n 64 r0 r1 x2 r3 M ρ = some y → ao_le ρ y.2) := by
  intro n
  induction n with
  | zero => exact ⟨fun _ _ _ _ _ _ h => ao_no h, fun _ _ _ _ _ _ _ h => ao_no h, fun _ _ _ _ _ _ _ h => ao_no h⟩
  | succ n ih =>
    refine ⟨?_, ?_, ?_⟩
    · intro r0 r1 x2 M ρ y h
      replace h := ao_ifT h rfl
      rcases ao_ifC h with h | h
      · cases h
        exact ao_le_rf _
      · obtain ⟨-, h⟩ := ao_some h
        rcases ao_ifC h with h | h
        · obtain ⟨-, h⟩ := ao_some h
          obtain ⟨p5, hp5, h⟩ := ao_bind h
          obtain ⟨p6, hp6, h⟩ := ao_bind h
          obtain ⟨-, h⟩ := ao_some h
          obtain ⟨p8, hp8, h⟩ := ao_bind h
          replace h := ao_letD h rfl
          generalize (ao_u p8 p6.1 9 (0 : Int32)) = M9 at h
          replace h := ao_letD h rfl
          generalize (ao_u M9 r1 8 (x2 + (1 : Int32))) = M10 at h
          rcases ao_ifC h with h | h
          · obtain ⟨j12, hj12, h⟩ := ao_bind h
            obtain ⟨-, h⟩ := ao_some h
            obtain ⟨p14, hp14, h⟩ := ao_bind h
            exact ao_le_tr (me_X5_release n j12 (M10 r1 0) M10 ρ hp14) (ih.2.1 r0 r1 x2 p6.1 p14.1 p14.2 _ h)
          · exact ih.2.2 r0 r1 x2 p6.1 M10 ρ _ h
        · cases h
          exact ao_le_rf _
    · intro r0 r1 x2 r3 M ρ y h
      replace h := ao_ifF h (by decide)
      replace h := ao_ifT h rfl
      obtain ⟨-, h⟩ := ao_some h
      obtain ⟨-, h⟩ := ao_some h
      replace h := ao_letD h rfl
      generalize (ao_u M r1 16 (M r0 6)) = M17 at h
      exact ih.2.2 r0 r1 x2 r3 M17 ρ _ h
    · intro r0 r1 x2 r3 M ρ y h
      replace h := ao_ifF h (by decide)
      replace h := ao_ifF h (by decide)
      replace h := ao_ifT h rfl
      obtain ⟨-, h⟩ := ao_some h
      obtain ⟨j19, hj19, h⟩ := ao_bind h
      obtain ⟨-, h⟩ := ao_some h
      obtain ⟨-, h⟩ := ao_some h
      replace h := ao_letD h rfl
      generalize (ao_u M r1 14 (M j19 4)) = M22 at h
      replace h := ao_letD h rfl
      generalize (ao_u M22 r1 17 ((M22 r1 17) + (1 : Int32))) = M23 at h
      obtain ⟨-, h⟩ := ao_some h
      replace h := ao_letD h rfl
      generalize (ao_u M23 r1 3 ((M23 r3 8) + (1 : Int32))) = M25 at h
      cases h
      exact ao_le_rf _
set_option maxRecDepth 100000 in
set_option maxHeartbeats 4000000 in
theorem wX2_restart {Γ : ao_C} (d : Nat) (hd : 4 ≤ d) (MC MS : Nat) : ∀ n : Nat, (∀ (r0 : Nat) (r1 : Nat) (x2 : Int32) (M : ao_M) (ρ : ao_H) (y : ao_S), fX2_restart n 0 r0 r1 x2 0 M ρ = some y → ao_W Γ uX2_restart (ao_rm d MC MS) (ao_Q Γ (ao_QV y) MC MS) (ao_dc ρ y.2) (ao_ds ρ y.2) 0 [some (.ref (Γ.2.2.2 + r0)), some (.ref (Γ.2.2.2 + r1)), some (.int x2), none] [] (M, ρ)) ∧ (∀ (r0 : Nat) (r1 : Nat) (x2 : Int32) (r3 : Nat) (M : ao_M) (ρ : ao_H) (y : ao_S), fX2_restart n 56 r0 r1 x2 r3 M ρ = some y → ao_W Γ uX2_restart (ao_rm d MC MS) (ao_Q Γ (ao_QV y) MC MS) (ao_dc ρ y.2) (ao_ds ρ y.2) 56 [some (.ref (Γ.2.2.2 + r0)), some (.ref (Γ.2.2.2 + r1)), some (.int x2), some (.ref (Γ.2.2.2 + r3))] [] (M, ρ)) ∧ (∀ (r0 : Nat) (r1 : Nat) (x2 : Int32) (r3 : Nat) (M : ao_M) (ρ : ao_H) (y : ao_S), fX2_restart n 64 r0 r1 x2 r3 M ρ = some y → ao_W Γ uX2_restart (ao_rm d MC MS) (ao_Q Γ (ao_QV y) MC MS) (ao_dc ρ y.2) (ao_ds ρ y.2) 64 [some (.ref (Γ.2.2.2 + r0)), some (.ref (Γ.2.2.2 + r1)), some (.int x2), some (.ref (Γ.2.2.2 + r3))] [] (M, ρ)) := by
  intro n
  induction n with
  | zero => exact ⟨fun _ _ _ _ _ _ h => ao_no h, fun _ _ _ _ _ _ _ h => ao_no h, fun _ _ _ _ _ _ _ h => ao_no h⟩
  | succ n ih =>
    refine ⟨?_, ?_, ?_⟩
    · intro r0 r1 x2 M ρ y h
      replace h := ao_ifT h rfl
      refine ao_iload_n 2 dX2_restart_0 rfl rfl ?_
      refine ao_if_lt 12 dX2_restart_1 (by decide) (fun c1 => ?_) (fun c1 => ?_)
      · replace h := ao_ifT h c1
        cases h
        exact ao_return dX2_restart_12 rfl ⟨rfl, rfl⟩
      · replace h := ao_ifF h c1
        refine ao_iload_n 2 dX2_restart_4 rfl rfl ?_
        refine ao_aload_n 1 dX2_restart_5 rfl rfl ?_
        obtain ⟨hk2, h⟩ := ao_some h
        refine an_getI r1 7 8 (q := (RX7, TX7, 20)) dX2_restart_6 rfl hk2 (Nat.le_of_ble_eq_true rfl) rfl lf_X2_165 ?_
        refine ao_icmp_lt 13 dX2_restart_9 (by decide) (fun c3 => ?_) (fun c3 => ?_)
        · replace h := ao_ifT h c3
          refine ao_aload_n 0 dX2_restart_13 rfl rfl ?_
          refine ao_aload_n 1 dX2_restart_14 rfl rfl ?_
          refine ao_iload_n 2 dX2_restart_15 rfl rfl ?_
          obtain ⟨hk4, h⟩ := ao_some h
          obtain ⟨p5, hp5, h⟩ := ao_bind h
          refine an_callVv r0 2 (q := (RX2, TX2, 7)) [.ref (Γ.2.2.2 + r1), .int x2] (aX2_takeBack (d - 1) (by omega) _ r0 r1 x2 M ρ hp5) dX2_restart_16 lc_X2_273 li_X2_takeBack ls_X2_takeBack rfl hk4 rfl rfl (Nat.le_of_ble_eq_true rfl) (ao_hR (by omega) (by decide)) ?_
          refine ao_aload_n 1 dX2_restart_19 rfl rfl ?_
          refine ao_iload_n 2 dX2_restart_20 rfl rfl ?_
          obtain ⟨p6, hp6, h⟩ := ao_bind h
          refine an_callVr r1 7 (q := (RX7, TX7, 20)) [.int x2] (aX7_level (d - 1) (by omega) _ r1 x2 p5 ρ hp6) dX2_restart_21 lc_X2_213 li_X7_level ls_X7_level rfl hk2 rfl rfl (Nat.le_of_ble_eq_true rfl) (ao_hR (by omega) (by decide)) ?_
          refine ao_astore_n 3 (lo' := [some (.ref (Γ.2.2.2 + r0)), some (.ref (Γ.2.2.2 + r1)), some (.int x2), some (.ref (Γ.2.2.2 + p6.1))]) dX2_restart_24 rfl (Nat.le_of_ble_eq_true rfl) rfl ?_
          refine ao_aload_n 3 dX2_restart_25 rfl rfl ?_
          obtain ⟨hk7, h⟩ := ao_some h
          obtain ⟨p8, hp8, h⟩ := ao_bind h
          refine an_callVv p6.1 3 (q := (RX3, TX3, 12)) [] (aX3_forgetReads (d - 1) (by omega) p6.1 p6.2 ρ hp8) dX2_restart_26 lc_X2_276 li_X3_forgetReads ls_X3_forgetReads rfl hk7 rfl rfl (Nat.le_of_ble_eq_true rfl) (ao_hR (by omega) (by decide)) ?_
          refine ao_aload_n 3 dX2_restart_29 rfl rfl ?_
          refine ao_iconst (v := 0) dX2_restart_30 (by decide) ?_
          refine an_putI p6.1 3 9 (q := (RX3, TX3, 12)) dX2_restart_31 rfl hk7 (Nat.le_of_ble_eq_true rfl) lf_X2_279 rfl rfl rfl rfl (fun M9 hM9 => ?_)
          replace h := ao_letD h hM9
          refine ao_aload_n 1 dX2_restart_34 rfl rfl ?_
          refine ao_iload_n 2 dX2_restart_35 rfl rfl ?_
          refine ao_iconst (v := 1) dX2_restart_36 (by decide) ?_
          refine ao_iadd dX2_restart_37 ?_
          refine an_putI r1 7 8 (q := (RX7, TX7, 20)) dX2_restart_38 rfl hk2 (Nat.le_of_ble_eq_true rfl) lf_X2_165 rfl rfl rfl rfl (fun M10 hM10 => ?_)
          replace h := ao_letD h hM10
          refine ao_iload_n 2 dX2_restart_41 rfl rfl ?_
          refine ao_if_ne 64 dX2_restart_42 (by decide) (fun c11 => ?_) (fun c11 => ?_)
          · replace h := ao_ifF h c11
            exact ih.2.2 r0 r1 x2 p6.1 M10 ρ _ h
          · replace h := ao_ifT h c11
            refine ao_aload_n 0 dX2_restart_45 rfl rfl ?_
            obtain ⟨j12, hj12, h⟩ := ao_bind h
            refine an_getR r0 2 0 (q := (RX2, TX2, 7)) dX2_restart_46 rfl hk4 (Nat.le_of_ble_eq_true rfl) rfl lf_X2_12 hj12 ?_
            refine ao_aload_n 1 dX2_restart_49 rfl rfl ?_
            refine an_getI r1 7 0 (q := (RX7, TX7, 20)) dX2_restart_50 rfl hk2 (Nat.le_of_ble_eq_true rfl) rfl lf_X2_171 ?_
            obtain ⟨hk13, h⟩ := ao_some h
            obtain ⟨p14, hp14, h⟩ := ao_bind h
            refine ba_callVv j12 5 (q := (RX5, TX5, 11)) [.int (M10 r1 0)] (aX5_release (d - 1) (by omega) n j12 (M10 r1 0) M10 ρ hp14) dX2_restart_53 lc_X2_283 li_X5_release ls_X5_release rfl hk13 rfl rfl (Nat.le_of_ble_eq_true rfl) (ao_hR (by omega) (by decide)) (ao_leC (me_X5_release n j12 (M10 r1 0) M10 ρ hp14) ((mX2_restart n).2.1 r0 r1 x2 p6.1 p14.1 p14.2 _ h)) (ao_leS (me_X5_release n j12 (M10 r1 0) M10 ρ hp14) ((mX2_restart n).2.1 r0 r1 x2 p6.1 p14.1 p14.2 _ h)) ?_
            exact ih.2.1 r0 r1 x2 p6.1 p14.1 p14.2 _ h
        · replace h := ao_ifF h c3
          cases h
          exact ao_return dX2_restart_12 rfl ⟨rfl, rfl⟩
    · intro r0 r1 x2 r3 M ρ y h
      replace h := ao_ifF h (by decide)
      replace h := ao_ifT h rfl
      refine ao_aload_n 1 dX2_restart_56 rfl rfl ?_
      refine ao_aload_n 0 dX2_restart_57 rfl rfl ?_
      obtain ⟨hk15, h⟩ := ao_some h
      refine an_getI r0 2 6 (q := (RX2, TX2, 7)) dX2_restart_58 rfl hk15 (Nat.le_of_ble_eq_true rfl) rfl lf_X2_77 ?_
      obtain ⟨hk16, h⟩ := ao_some h
      refine an_putI r1 7 16 (q := (RX7, TX7, 20)) dX2_restart_61 rfl hk16 (Nat.le_of_ble_eq_true rfl) lf_X2_286 rfl rfl rfl rfl (fun M17 hM17 => ?_)
      replace h := ao_letD h hM17
      exact ih.2.2 r0 r1 x2 r3 M17 ρ _ h
    · intro r0 r1 x2 r3 M ρ y h
      replace h := ao_ifF h (by decide)
      replace h := ao_ifF h (by decide)
      replace h := ao_ifT h rfl
      refine ao_aload_n 1 dX2_restart_64 rfl rfl ?_
      refine ao_aload_n 0 dX2_restart_65 rfl rfl ?_
      obtain ⟨hk18, h⟩ := ao_some h
      obtain ⟨j19, hj19, h⟩ := ao_bind h
      refine an_getR r0 2 0 (q := (RX2, TX2, 7)) dX2_restart_66 rfl hk18 (Nat.le_of_ble_eq_true rfl) rfl lf_X2_12 hj19 ?_
      obtain ⟨hk20, h⟩ := ao_some h
      refine an_getI j19 5 4 (q := (RX5, TX5, 11)) dX2_restart_69 rfl hk20 (Nat.le_of_ble_eq_true rfl) rfl lf_X2_61 ?_
      obtain ⟨hk21, h⟩ := ao_some h
      refine an_putI r1 7 14 (q := (RX7, TX7, 20)) dX2_restart_72 rfl hk21 (Nat.le_of_ble_eq_true rfl) lf_X2_224 rfl rfl rfl rfl (fun M22 hM22 => ?_)
      replace h := ao_letD h hM22
      refine ao_aload_n 1 dX2_restart_75 rfl rfl ?_
      refine ao_dup dX2_restart_76 rfl ?_
      refine an_getI r1 7 17 (q := (RX7, TX7, 20)) dX2_restart_77 rfl hk21 (Nat.le_of_ble_eq_true rfl) rfl lf_X2_289 ?_
      refine ao_iconst (v := 1) dX2_restart_80 (by decide) ?_
      refine ao_iadd dX2_restart_81 ?_
      refine an_putI r1 7 17 (q := (RX7, TX7, 20)) dX2_restart_82 rfl hk21 (Nat.le_of_ble_eq_true rfl) lf_X2_289 rfl rfl rfl rfl (fun M23 hM23 => ?_)
      replace h := ao_letD h hM23
      refine ao_aload_n 1 dX2_restart_85 rfl rfl ?_
      refine ao_aload_n 3 dX2_restart_86 rfl rfl ?_
      obtain ⟨hk24, h⟩ := ao_some h
      refine an_getI r3 3 8 (q := (RX3, TX3, 12)) dX2_restart_87 rfl hk24 (Nat.le_of_ble_eq_true rfl) rfl lf_X2_292 ?_
      refine ao_iconst (v := 1) dX2_restart_90 (by decide) ?_
      refine ao_iadd dX2_restart_91 ?_
      refine an_putI r1 7 3 (q := (RX7, TX7, 20)) dX2_restart_92 rfl hk21 (Nat.le_of_ble_eq_true rfl) lf_X2_92 rfl rfl rfl rfl (fun M25 hM25 => ?_)
      replace h := ao_letD h hM25
      cases h
      exact ao_return dX2_restart_95 rfl ⟨rfl, rfl⟩
theorem me_X2_restart (n : Nat) (r0 : Nat) (r1 : Nat) (x2 : Int32) (M : ao_M) (ρ : ao_H) {y : ao_S} (h : gX2_restart n r0 r1 x2 M ρ = some y) : ao_le ρ y.2 := (mX2_restart n).1 r0 r1 x2 M ρ y h
set_option maxRecDepth 100000 in
set_option maxHeartbeats 4000000 in
theorem aX2_restart {Γ : ao_C} (d : Nat) (hd : 4 ≤ d) (n : Nat) (r0 : Nat) (r1 : Nat) (x2 : Int32) (M : ao_M) (ρ : ao_H) {y : ao_S} (h : gX2_restart n r0 r1 x2 M ρ = some y) : ao_A Γ uX2_restart d (ao_dc ρ y.2) (ao_ds ρ y.2) [.ref (Γ.2.2.2 + r0), .ref (Γ.2.2.2 + r1), .int x2] (M, ρ) (ao_QV y) := by
  refine ao_of (by decide) (ao_cat1 (Nat.le_of_ble_eq_true rfl)) (Nat.le_of_ble_eq_true rfl) ?_
  show ao_W Γ uX2_restart (ao_rm d (ao_dc ρ y.2) (ao_ds ρ y.2)) (ao_Q Γ (ao_QV y) (ao_dc ρ y.2) (ao_ds ρ y.2)) (ao_dc ρ y.2) (ao_ds ρ y.2) 0 [some (.ref (Γ.2.2.2 + r0)), some (.ref (Γ.2.2.2 + r1)), some (.int x2), none] [] (M, ρ)
  exact (wX2_restart d hd _ _ n).1 r0 r1 x2 M ρ y h

abbrev uX2_leaveFrom : ao_Mi := (yX2_leaveFrom, cX2_leaveFrom, 3, none, [])
def fX2_leaveFrom : Nat → Nat → Nat → Nat → Int32 →  ao_M → ao_H → Option (ao_S)
  | 0, _, _, _, _, _, _ => none
  | n + 1, pc, r0, r1, x2, M, ρ =>
    if pc = 0 then
      if x2 < 0 then
        some (M, ρ)
      else
        if ρ.2.1 r1 = 17 then
        if x2 < (M r1 8) then
          (gX2_foldReads n r1 (x2 - (1 : Int32)) M ρ).bind fun p4 =>
          if ρ.2.1 r0 = 12 then
          (gX2_takeBack n r0 r1 x2 p4 ρ).bind fun p6 =>
          ao_let (ao_u p6 r1 8 x2) fun M7 =>
          if x2 = 0 then
            (ρ.1 r0 0).bind fun j9 =>
            if ρ.2.1 j9 = 15 then
            (gX5_release n j9 (M7 r1 0) M7 ρ).bind fun p11 =>
            fX2_leaveFrom n 46 r0 r1 x2 p11.1 p11.2
            else none
          else
            some (M7, ρ)
          else none
        else
          some (M, ρ)
        else none
    else if pc = 46 then
      if ρ.2.1 r1 = 17 then
      ao_let (ao_u M r1 2 (1 : Int32)) fun M13 =>
      some (M13, ρ)
      else none
    else none
def gX2_leaveFrom (n : Nat) (r0 : Nat) (r1 : Nat) (x2 : Int32) (M : ao_M) (ρ : ao_H) : Option (ao_S) := fX2_leaveFrom n 0 r0 r1 x2 M ρ
set_option maxRecDepth 100000 in
set_option maxHeartbeats 4000000 in
theorem mX2_leaveFrom : ∀ n : Nat, (∀ (r0 : Nat) (r1 : Nat) (x2 : Int32) (M : ao_M) (ρ : ao_H) (y : ao_S), fX2_leaveFrom n 0 r0 r1 x2 M ρ = some y → ao_le ρ y.2) ∧ (∀ (r0 : Nat) (r1 : Nat) (x2 : Int32) (M : ao_M) (ρ : ao_H) (y : ao_S), fX2_leaveFrom n 46 r0 r1 x2 M ρ = some y → ao_le ρ y.2) := by
  intro n
  induction n with
  | zero => exact ⟨fun _ _ _ _ _ _ h => ao_no h, fun _ _ _ _ _ _ h => ao_no h⟩
  | succ n ih =>
    refine ⟨?_, ?_⟩
    · intro r0 r1 x2 M ρ y h
      replace h := ao_ifT h rfl
      rcases ao_ifC h with h | h
      · cases h
        exact ao_le_rf _
      · obtain ⟨-, h⟩ := ao_some h
        rcases ao_ifC h with h | h
        · obtain ⟨p4, hp4, h⟩ := ao_bind h
          obtain ⟨-, h⟩ := ao_some h
          obtain ⟨p6, hp6, h⟩ := ao_bind h
          replace h := ao_letD h rfl
          generalize (ao_u p6 r1 8 x2) = M7 at h
          rcases ao_ifC h with h | h
          · obtain ⟨j9, hj9, h⟩ := ao_bind h
            obtain ⟨-, h⟩ := ao_some h
            obtain ⟨p11, hp11, h⟩ := ao_bind h
            exact ao_le_tr (me_X5_release n j9 (M7 r1 0) M7 ρ hp11) (ih.2 r0 r1 x2 p11.1 p11.2 _ h)
          · cases h
            exact ao_le_rf _
        · cases h
          exact ao_le_rf _
    · intro r0 r1 x2 M ρ y h
      replace h := ao_ifF h (by decide)
      replace h := ao_ifT h rfl
      obtain ⟨-, h⟩ := ao_some h
      replace h := ao_letD h rfl
      generalize (ao_u M r1 2 (1 : Int32)) = M13 at h
      cases h
      exact ao_le_rf _
set_option maxRecDepth 100000 in
set_option maxHeartbeats 4000000 in
theorem wX2_leaveFrom {Γ : ao_C} (d : Nat) (hd : 4 ≤ d) (MC MS : Nat) : ∀ n : Nat, (∀ (r0 : Nat) (r1 : Nat) (x2 : Int32) (M : ao_M) (ρ : ao_H) (y : ao_S), fX2_leaveFrom n 0 r0 r1 x2 M ρ = some y → ao_W Γ uX2_leaveFrom (ao_rm d MC MS) (ao_Q Γ (ao_QV y) MC MS) (ao_dc ρ y.2) (ao_ds ρ y.2) 0 [some (.ref (Γ.2.2.2 + r0)), some (.ref (Γ.2.2.2 + r1)), some (.int x2)] [] (M, ρ)) ∧ (∀ (r0 : Nat) (r1 : Nat) (x2 : Int32) (M : ao_M) (ρ : ao_H) (y : ao_S), fX2_leaveFrom n 46 r0 r1 x2 M ρ = some y → ao_W Γ uX2_leaveFrom (ao_rm d MC MS) (ao_Q Γ (ao_QV y) MC MS) (ao_dc ρ y.2) (ao_ds ρ y.2) 46 [some (.ref (Γ.2.2.2 + r0)), some (.ref (Γ.2.2.2 + r1)), some (.int x2)] [] (M, ρ)) := by
  intro n
  induction n with
  | zero => exact ⟨fun _ _ _ _ _ _ h => ao_no h, fun _ _ _ _ _ _ h => ao_no h⟩
  | succ n ih =>
    refine ⟨?_, ?_⟩
    · intro r0 r1 x2 M ρ y h
      replace h := ao_ifT h rfl
      refine ao_iload_n 2 dX2_leaveFrom_0 rfl rfl ?_
      refine ao_if_lt 12 dX2_leaveFrom_1 (by decide) (fun c1 => ?_) (fun c1 => ?_)
      · replace h := ao_ifT h c1
        cases h
        exact ao_return dX2_leaveFrom_12 rfl ⟨rfl, rfl⟩
      · replace h := ao_ifF h c1
        refine ao_iload_n 2 dX2_leaveFrom_4 rfl rfl ?_
        refine ao_aload_n 1 dX2_leaveFrom_5 rfl rfl ?_
        obtain ⟨hk2, h⟩ := ao_some h
        refine an_getI r1 7 8 (q := (RX7, TX7, 20)) dX2_leaveFrom_6 rfl hk2 (Nat.le_of_ble_eq_true rfl) rfl lf_X2_165 ?_
        refine ao_icmp_lt 13 dX2_leaveFrom_9 (by decide) (fun c3 => ?_) (fun c3 => ?_)
        · replace h := ao_ifT h c3
          refine ao_aload_n 1 dX2_leaveFrom_13 rfl rfl ?_
          refine ao_iload_n 2 dX2_leaveFrom_14 rfl rfl ?_
          refine ao_iconst (v := 1) dX2_leaveFrom_15 (by decide) ?_
          refine ao_isub dX2_leaveFrom_16 ?_
          obtain ⟨p4, hp4, h⟩ := ao_bind h
          refine an_callSv [.ref (Γ.2.2.2 + r1), .int (x2 - (1 : Int32))] (aX2_foldReads (d - 1) (by omega) _ r1 (x2 - (1 : Int32)) M ρ hp4) dX2_leaveFrom_17 lc_X2_310 lt_X2_foldReads rfl rfl (Nat.le_of_ble_eq_true rfl) (ao_hR (by omega) (by decide)) ?_
          refine ao_aload_n 0 dX2_leaveFrom_20 rfl rfl ?_
          refine ao_aload_n 1 dX2_leaveFrom_21 rfl rfl ?_
          refine ao_iload_n 2 dX2_leaveFrom_22 rfl rfl ?_
          obtain ⟨hk5, h⟩ := ao_some h
          obtain ⟨p6, hp6, h⟩ := ao_bind h
          refine an_callVv r0 2 (q := (RX2, TX2, 7)) [.ref (Γ.2.2.2 + r1), .int x2] (aX2_takeBack (d - 1) (by omega) _ r0 r1 x2 p4 ρ hp6) dX2_leaveFrom_23 lc_X2_273 li_X2_takeBack ls_X2_takeBack rfl hk5 rfl rfl (Nat.le_of_ble_eq_true rfl) (ao_hR (by omega) (by decide)) ?_
          refine ao_aload_n 1 dX2_leaveFrom_26 rfl rfl ?_
          refine ao_iload_n 2 dX2_leaveFrom_27 rfl rfl ?_
          refine an_putI r1 7 8 (q := (RX7, TX7, 20)) dX2_leaveFrom_28 rfl hk2 (Nat.le_of_ble_eq_true rfl) lf_X2_165 rfl rfl rfl rfl (fun M7 hM7 => ?_)
          replace h := ao_letD h hM7
          refine ao_iload_n 2 dX2_leaveFrom_31 rfl rfl ?_
          refine ao_if_ne 51 dX2_leaveFrom_32 (by decide) (fun c8 => ?_) (fun c8 => ?_)
          · replace h := ao_ifF h c8
            cases h
            exact ao_return dX2_leaveFrom_51 rfl ⟨rfl, rfl⟩
          · replace h := ao_ifT h c8
            refine ao_aload_n 0 dX2_leaveFrom_35 rfl rfl ?_
            obtain ⟨j9, hj9, h⟩ := ao_bind h
            refine an_getR r0 2 0 (q := (RX2, TX2, 7)) dX2_leaveFrom_36 rfl hk5 (Nat.le_of_ble_eq_true rfl) rfl lf_X2_12 hj9 ?_
            refine ao_aload_n 1 dX2_leaveFrom_39 rfl rfl ?_
            refine an_getI r1 7 0 (q := (RX7, TX7, 20)) dX2_leaveFrom_40 rfl hk2 (Nat.le_of_ble_eq_true rfl) rfl lf_X2_171 ?_
            obtain ⟨hk10, h⟩ := ao_some h
            obtain ⟨p11, hp11, h⟩ := ao_bind h
            refine ba_callVv j9 5 (q := (RX5, TX5, 11)) [.int (M7 r1 0)] (aX5_release (d - 1) (by omega) n j9 (M7 r1 0) M7 ρ hp11) dX2_leaveFrom_43 lc_X2_283 li_X5_release ls_X5_release rfl hk10 rfl rfl (Nat.le_of_ble_eq_true rfl) (ao_hR (by omega) (by decide)) (ao_leC (me_X5_release n j9 (M7 r1 0) M7 ρ hp11) ((mX2_leaveFrom n).2 r0 r1 x2 p11.1 p11.2 _ h)) (ao_leS (me_X5_release n j9 (M7 r1 0) M7 ρ hp11) ((mX2_leaveFrom n).2 r0 r1 x2 p11.1 p11.2 _ h)) ?_
            exact ih.2 r0 r1 x2 p11.1 p11.2 _ h
        · replace h := ao_ifF h c3
          cases h
          exact ao_return dX2_leaveFrom_12 rfl ⟨rfl, rfl⟩
    · intro r0 r1 x2 M ρ y h
      replace h := ao_ifF h (by decide)
      replace h := ao_ifT h rfl
      refine ao_aload_n 1 dX2_leaveFrom_46 rfl rfl ?_
      refine ao_iconst (v := 1) dX2_leaveFrom_47 (by decide) ?_
      obtain ⟨hk12, h⟩ := ao_some h
      refine an_putI r1 7 2 (q := (RX7, TX7, 20)) dX2_leaveFrom_48 rfl hk12 (Nat.le_of_ble_eq_true rfl) lf_X2_55 rfl rfl rfl rfl (fun M13 hM13 => ?_)
      replace h := ao_letD h hM13
      cases h
      exact ao_return dX2_leaveFrom_51 rfl ⟨rfl, rfl⟩
theorem me_X2_leaveFrom (n : Nat) (r0 : Nat) (r1 : Nat) (x2 : Int32) (M : ao_M) (ρ : ao_H) {y : ao_S} (h : gX2_leaveFrom n r0 r1 x2 M ρ = some y) : ao_le ρ y.2 := (mX2_leaveFrom n).1 r0 r1 x2 M ρ y h
set_option maxRecDepth 100000 in
set_option maxHeartbeats 4000000 in
theorem aX2_leaveFrom {Γ : ao_C} (d : Nat) (hd : 4 ≤ d) (n : Nat) (r0 : Nat) (r1 : Nat) (x2 : Int32) (M : ao_M) (ρ : ao_H) {y : ao_S} (h : gX2_leaveFrom n r0 r1 x2 M ρ = some y) : ao_A Γ uX2_leaveFrom d (ao_dc ρ y.2) (ao_ds ρ y.2) [.ref (Γ.2.2.2 + r0), .ref (Γ.2.2.2 + r1), .int x2] (M, ρ) (ao_QV y) := by
  refine ao_of (by decide) (ao_cat1 (Nat.le_of_ble_eq_true rfl)) (Nat.le_of_ble_eq_true rfl) ?_
  show ao_W Γ uX2_leaveFrom (ao_rm d (ao_dc ρ y.2) (ao_ds ρ y.2)) (ao_Q Γ (ao_QV y) (ao_dc ρ y.2) (ao_ds ρ y.2)) (ao_dc ρ y.2) (ao_ds ρ y.2) 0 [some (.ref (Γ.2.2.2 + r0)), some (.ref (Γ.2.2.2 + r1)), some (.int x2)] [] (M, ρ)
  exact (wX2_leaveFrom d hd _ _ n).1 r0 r1 x2 M ρ y h

abbrev uX2_mayEnd : ao_Mi := (yX2_mayEnd, cX2_mayEnd, 5, (some .boolean), [])
def fX2_mayEnd : Nat → Nat → Nat → Nat → Nat → Int32 → Int32 →  ao_M → ao_H → Option (Int32 × ao_S)
  | 0, _, _, _, _, _, _, _, _ => none
  | n + 1, pc, r0, r1, r2, x3, x4, M, ρ =>
    if pc = 0 then
      if ρ.2.1 r1 = 17 then
      (gX7_level n r1 (0 : Int32) M ρ).bind fun p2 =>
      if ρ.2.1 r0 = 12 then
      if (p2.2 r0 5) = (3 : Int32) then
        fX2_mayEnd n 23 r0 r1 p2.1 0 0 p2.2 ρ
      else
        if ρ.2.1 p2.1 = 13 then
        if (p2.2 p2.1 6) = 0 then
          some ((1 : Int32), p2.2, ρ)
        else
          fX2_mayEnd n 23 r0 r1 p2.1 0 0 p2.2 ρ
        else none
      else none
      else none
    else if pc = 23 then
      fX2_mayEnd n 25 r0 r1 r2 (0 : Int32) 0 M ρ
    else if pc = 25 then
      if ρ.2.1 r0 = 12 then
      if (M r0 5) = (3 : Int32) then
        if ρ.2.1 r2 = 13 then
        if (M r2 3) ≤ x3 then
          fX2_mayEnd n 101 r0 r1 r2 x3 0 M ρ
        else
          if (26 : Int32) ≤ x3 then
            fX2_mayEnd n 101 r0 r1 r2 x3 0 M ρ
          else
            (ρ.1 r2 0).bind fun j12 =>
            if ρ.2.1 j12 = 0 then
            if ¬ (x3 < 0 ∨ ρ.2.2.1 j12 ≤ x3.toNatClampNeg) then
            (gX2_loserAbout r0 r1 (M j12 x3.toNatClampNeg) M ρ).bind fun p15 =>
            ao_let p15.1 fun v16 =>
            if v16 < 0 then
              fX2_mayEnd n 84 r0 r1 r2 x3 v16 p15.2 ρ
            else
              if (6 : Int32) ≤ v16 then
                fX2_mayEnd n 84 r0 r1 r2 x3 v16 p15.2 ρ
              else
                (ρ.1 r0 1).bind fun j19 =>
                if ρ.2.1 j19 = 4 then
                if ¬ (v16 < 0 ∨ ρ.2.2.1 j19 ≤ v16.toNatClampNeg) then
                (ρ.1 j19 v16.toNatClampNeg).bind fun j22 =>
                (gX2_restart n r0 j22 (0 : Int32) p15.2 ρ).bind fun p23 =>
                fX2_mayEnd n 84 r0 r1 r2 x3 v16 p23.1 p23.2
                else none
                else none
            else none
            else none
        else none
      else
        fX2_mayEnd n 101 r0 r1 r2 x3 0 M ρ
      else none
    else if pc = 84 then
      if ρ.2.1 r1 = 17 then
      if x4 = (M r1 0) then
        some ((0 : Int32), M, ρ)
      else
        ao_let (x3 + (1 : Int32)) fun v26 =>
        fX2_mayEnd n 25 r0 r1 r2 v26 0 M ρ
      else none
    else if pc = 101 then
      if ρ.2.1 r0 = 12 then
      (gX2_outermostWrong n r0 r1 M ρ).bind fun p28 =>
      ao_let p28.1 fun v29 =>
      (gX2_restart n r0 r1 v29 p28.2 ρ).bind fun p30 =>
      fX2_mayEnd n 113 r0 r1 r2 v29 0 p30.1 p30.2
      else none
    else if pc = 113 then
      if 0 ≤ x3 then
        some ((0 : Int32), M, ρ)
      else
        some ((1 : Int32), M, ρ)
    else none
def gX2_mayEnd (n : Nat) (r0 : Nat) (r1 : Nat) (M : ao_M) (ρ : ao_H) : Option (Int32 × ao_S) := fX2_mayEnd n 0 r0 r1 0 0 0 M ρ
set_option maxRecDepth 100000 in
set_option maxHeartbeats 4000000 in
theorem mX2_mayEnd : ∀ n : Nat, (∀ (r0 : Nat) (r1 : Nat) (M : ao_M) (ρ : ao_H) (y : Int32 × ao_S), fX2_mayEnd n 0 r0 r1 0 0 0 M ρ = some y → ao_le ρ y.2.2) ∧ (∀ (r0 : Nat) (r1 : Nat) (r2 : Nat) (M : ao_M) (ρ : ao_H) (y : Int32 × ao_S), fX2_mayEnd n 23 r0 r1 r2 0 0 M ρ = some y → ao_le ρ y.2.2) ∧ (∀ (r0 : Nat) (r1 : Nat) (r2 : Nat) (x3 : Int32) (M : ao_M) (ρ : ao_H) (y : Int32 × ao_S), fX2_mayEnd n 25 r0 r1 r2 x3 0 M ρ = some y → ao_le ρ y.2.2) ∧ (∀ (r0 : Nat) (r1 : Nat) (r2 : Nat) (x3 : Int32) (x4 : Int32) (M : ao_M) (ρ : ao_H) (y : Int32 × ao_S), fX2_mayEnd n 84 r0 r1 r2 x3 x4 M ρ = some y → ao_le ρ y.2.2) ∧ (∀ (r0 : Nat) (r1 : Nat) (r2 : Nat) (x3 : Int32) (M : ao_M) (ρ : ao_H) (y : Int32 × ao_S), fX2_mayEnd n 101 r0 r1 r2 x3 0 M ρ = some y → ao_le ρ y.2.2) ∧ (∀ (r0 : Nat) (r1 : Nat) (r2 : Nat) (x3 : Int32) (M : ao_M) (ρ : ao_H) (y : Int32 × ao_S), fX2_mayEnd n 113 r0 r1 r2 x3 0 M ρ = some y → ao_le ρ y.2.2) := by
  intro n
  induction n with
  | zero => exact ⟨fun _ _ _ _ _ h => ao_no h, fun _ _ _ _ _ _ h => ao_no h, fun _ _ _ _ _ _ _ h => ao_no h, fun _ _ _ _ _ _ _ _ h => ao_no h, fun _ _ _ _ _ _ _ h => ao_no h, fun _ _ _ _ _ _ _ h => ao_no h⟩
  | succ n ih =>
    refine ⟨?_, ?_, ?_, ?_, ?_, ?_⟩
    · intro r0 r1 M ρ y h
      replace h := ao_ifT h rfl
      obtain ⟨-, h⟩ := ao_some h
      obtain ⟨p2, hp2, h⟩ := ao_bind h
      obtain ⟨-, h⟩ := ao_some h
      rcases ao_ifC h with h | h
      · exact ih.2.1 r0 r1 p2.1 p2.2 ρ _ h
      · obtain ⟨-, h⟩ := ao_some h
        rcases ao_ifC h with h | h
        · cases h
          exact ao_le_rf _
        · exact ih.2.1 r0 r1 p2.1 p2.2 ρ _ h
    · intro r0 r1 r2 M ρ y h
      replace h := ao_ifF h (by decide)
      replace h := ao_ifT h rfl
      exact ih.2.2.1 r0 r1 r2 (0 : Int32) M ρ _ h
    · intro r0 r1 r2 x3 M ρ y h
      replace h := ao_ifF h (by decide)
      replace h := ao_ifF h (by decide)
      replace h := ao_ifT h rfl
      obtain ⟨-, h⟩ := ao_some h
      rcases ao_ifC h with h | h
      · obtain ⟨-, h⟩ := ao_some h
        rcases ao_ifC h with h | h
        · exact ih.2.2.2.2.1 r0 r1 r2 x3 M ρ _ h
        · rcases ao_ifC h with h | h
          · exact ih.2.2.2.2.1 r0 r1 r2 x3 M ρ _ h
          · obtain ⟨j12, hj12, h⟩ := ao_bind h
            obtain ⟨-, h⟩ := ao_some h
            obtain ⟨-, h⟩ := ao_some h
            obtain ⟨p15, hp15, h⟩ := ao_bind h
            replace h := ao_letD h rfl
            generalize p15.1 = v16 at h
            rcases ao_ifC h with h | h
            · exact ih.2.2.2.1 r0 r1 r2 x3 v16 p15.2 ρ _ h
            · rcases ao_ifC h with h | h
              · exact ih.2.2.2.1 r0 r1 r2 x3 v16 p15.2 ρ _ h
              · obtain ⟨j19, hj19, h⟩ := ao_bind h
                obtain ⟨-, h⟩ := ao_some h
                obtain ⟨-, h⟩ := ao_some h
                obtain ⟨j22, hj22, h⟩ := ao_bind h
                obtain ⟨p23, hp23, h⟩ := ao_bind h
                exact ao_le_tr (me_X2_restart n r0 j22 (0 : Int32) p15.2 ρ hp23) (ih.2.2.2.1 r0 r1 r2 x3 v16 p23.1 p23.2 _ h)
      · exact ih.2.2.2.2.1 r0 r1 r2 x3 M ρ _ h
    · intro r0 r1 r2 x3 x4 M ρ y h
      replace h := ao_ifF h (by decide)
      replace h := ao_ifF h (by decide)
      replace h := ao_ifF h (by decide)
      replace h := ao_ifT h rfl
      obtain ⟨-, h⟩ := ao_some h
      rcases ao_ifC h with h | h
      · cases h
        exact ao_le_rf _
      · replace h := ao_letD h rfl
        generalize (x3 + (1 : Int32)) = v26 at h
        exact ih.2.2.1 r0 r1 r2 v26 M ρ _ h
    · intro r0 r1 r2 x3 M ρ y h
      replace h := ao_ifF h (by decide)
      replace h := ao_ifF h (by decide)
      replace h := ao_ifF h (by decide)
      replace h := ao_ifF h (by decide)
      replace h := ao_ifT h rfl
      obtain ⟨-, h⟩ := ao_some h
      obtain ⟨p28, hp28, h⟩ := ao_bind h
      replace h := ao_letD h rfl
      generalize p28.1 = v29 at h
      obtain ⟨p30, hp30, h⟩ := ao_bind h
      exact ao_le_tr (me_X2_restart n r0 r1 v29 p28.2 ρ hp30) (ih.2.2.2.2.2 r0 r1 r2 v29 p30.1 p30.2 _ h)
    · intro r0 r1 r2 x3 M ρ y h
      replace h := ao_ifF h (by decide)
      replace h := ao_ifF h (by decide)
      replace h := ao_ifF h (by decide)
      replace h := ao_ifF h (by decide)
      replace h := ao_ifF h (by decide)
      replace h := ao_ifT h rfl
      rcases ao_ifC h with h | h
      · cases h
        exact ao_le_rf _
      · cases h
        exact ao_le_rf _
set_option maxRecDepth 100000 in
set_option maxHeartbeats 4000000 in
theorem wX2_mayEnd {Γ : ao_C} (d : Nat) (hd : 5 ≤ d) (MC MS : Nat) : ∀ n : Nat, (∀ (r0 : Nat) (r1 : Nat) (M : ao_M) (ρ : ao_H) (y : Int32 × ao_S), fX2_mayEnd n 0 r0 r1 0 0 0 M ρ = some y → ao_W Γ uX2_mayEnd (ao_rm d MC MS) (ao_Q Γ (ao_QI y) MC MS) (ao_dc ρ y.2.2) (ao_ds ρ y.2.2) 0 [some (.ref (Γ.2.2.2 + r0)), some (.ref (Γ.2.2.2 + r1)), none, none, none] [] (M, ρ)) ∧ (∀ (r0 : Nat) (r1 : Nat) (r2 : Nat) (M : ao_M) (ρ : ao_H) (y : Int32 × ao_S), fX2_mayEnd n 23 r0 r1 r2 0 0 M ρ = some y → ao_W Γ uX2_mayEnd (ao_rm d MC MS) (ao_Q Γ (ao_QI y) MC MS) (ao_dc ρ y.2.2) (ao_ds ρ y.2.2) 23 [some (.ref (Γ.2.2.2 + r0)), some (.ref (Γ.2.2.2 + r1)), some (.ref (Γ.2.2.2 + r2)), none, none] [] (M, ρ)) ∧ (∀ (r0 : Nat) (r1 : Nat) (r2 : Nat) (x3 : Int32) (M : ao_M) (ρ : ao_H) (y : Int32 × ao_S), fX2_mayEnd n 25 r0 r1 r2 x3 0 M ρ = some y → ao_W Γ uX2_mayEnd (ao_rm d MC MS) (ao_Q Γ (ao_QI y) MC MS) (ao_dc ρ y.2.2) (ao_ds ρ y.2.2) 25 [some (.ref (Γ.2.2.2 + r0)), some (.ref (Γ.2.2.2 + r1)), some (.ref (Γ.2.2.2 + r2)), some (.int x3), none] [] (M, ρ)) ∧ (∀ (r0 : Nat) (r1 : Nat) (r2 : Nat) (x3 : Int32) (x4 : Int32) (M : ao_M) (ρ : ao_H) (y : Int32 × ao_S), fX2_mayEnd n 84 r0 r1 r2 x3 x4 M ρ = some y → ao_W Γ uX2_mayEnd (ao_rm d MC MS) (ao_Q Γ (ao_QI y) MC MS) (ao_dc ρ y.2.2) (ao_ds ρ y.2.2) 84 [some (.ref (Γ.2.2.2 + r0)), some (.ref (Γ.2.2.2 + r1)), some (.ref (Γ.2.2.2 + r2)), some (.int x3), some (.int x4)] [] (M, ρ)) ∧ (∀ (r0 : Nat) (r1 : Nat) (r2 : Nat) (x3 : Int32) (M : ao_M) (ρ : ao_H) (y : Int32 × ao_S), fX2_mayEnd n 101 r0 r1 r2 x3 0 M ρ = some y → ao_W Γ uX2_mayEnd (ao_rm d MC MS) (ao_Q Γ (ao_QI y) MC MS) (ao_dc ρ y.2.2) (ao_ds ρ y.2.2) 101 [some (.ref (Γ.2.2.2 + r0)), some (.ref (Γ.2.2.2 + r1)), some (.ref (Γ.2.2.2 + r2)), some (.int x3), none] [] (M, ρ)) ∧ (∀ (r0 : Nat) (r1 : Nat) (r2 : Nat) (x3 : Int32) (M : ao_M) (ρ : ao_H) (y : Int32 × ao_S), fX2_mayEnd n 113 r0 r1 r2 x3 0 M ρ = some y → ao_W Γ uX2_mayEnd (ao_rm d MC MS) (ao_Q Γ (ao_QI y) MC MS) (ao_dc ρ y.2.2) (ao_ds ρ y.2.2) 113 [some (.ref (Γ.2.2.2 + r0)), some (.ref (Γ.2.2.2 + r1)), some (.ref (Γ.2.2.2 + r2)), some (.int x3), none] [] (M, ρ)) := by
  intro n
  induction n with
  | zero => exact ⟨fun _ _ _ _ _ h => ao_no h, fun _ _ _ _ _ _ h => ao_no h, fun _ _ _ _ _ _ _ h => ao_no h, fun _ _ _ _ _ _ _ _ h => ao_no h, fun _ _ _ _ _ _ _ h => ao_no h, fun _ _ _ _ _ _ _ h => ao_no h⟩
  | succ n ih =>
    refine ⟨?_, ?_, ?_, ?_, ?_, ?_⟩
    · intro r0 r1 M ρ y h
      replace h := ao_ifT h rfl
      refine ao_aload_n 1 dX2_mayEnd_0 rfl rfl ?_
      refine ao_iconst (v := 0) dX2_mayEnd_1 (by decide) ?_
      obtain ⟨hk1, h⟩ := ao_some h
      obtain ⟨p2, hp2, h⟩ := ao_bind h
      refine an_callVr r1 7 (q := (RX7, TX7, 20)) [.int (0 : Int32)] (aX7_level (d - 1) (by omega) _ r1 (0 : Int32) M ρ hp2) dX2_mayEnd_2 lc_X2_213 li_X7_level ls_X7_level rfl hk1 rfl rfl (Nat.le_of_ble_eq_true rfl) (ao_hR (by omega) (by decide)) ?_
      refine ao_astore_n 2 (lo' := [some (.ref (Γ.2.2.2 + r0)), some (.ref (Γ.2.2.2 + r1)), some (.ref (Γ.2.2.2 + p2.1)), none, none]) dX2_mayEnd_5 rfl (Nat.le_of_ble_eq_true rfl) rfl ?_
      refine ao_aload_n 0 dX2_mayEnd_6 rfl rfl ?_
      obtain ⟨hk3, h⟩ := ao_some h
      refine an_getI r0 2 5 (q := (RX2, TX2, 7)) dX2_mayEnd_7 rfl hk3 (Nat.le_of_ble_eq_true rfl) rfl lf_X2_41 ?_
      refine ao_iconst (v := 3) dX2_mayEnd_10 (by decide) ?_
      refine ao_icmp_eq 23 dX2_mayEnd_11 (by decide) (fun c4 => ?_) (fun c4 => ?_)
      · replace h := ao_ifT h c4
        exact ih.2.1 r0 r1 p2.1 p2.2 ρ _ h
      · replace h := ao_ifF h c4
        refine ao_aload_n 2 dX2_mayEnd_14 rfl rfl ?_
        obtain ⟨hk5, h⟩ := ao_some h
        refine an_getI p2.1 3 6 (q := (RX3, TX3, 12)) dX2_mayEnd_15 rfl hk5 (Nat.le_of_ble_eq_true rfl) rfl lf_X2_304 ?_
        refine ao_if_ne 23 dX2_mayEnd_18 (by decide) (fun c6 => ?_) (fun c6 => ?_)
        · replace h := ao_ifF h c6
          exact ih.2.1 r0 r1 p2.1 p2.2 ρ _ h
        · replace h := ao_ifT h c6
          refine ao_iconst (v := 1) dX2_mayEnd_21 (by decide) ?_
          cases h
          exact ao_ireturn dX2_mayEnd_22 rfl rfl ⟨rfl, rfl⟩
    · intro r0 r1 r2 M ρ y h
      replace h := ao_ifF h (by decide)
      replace h := ao_ifT h rfl
      refine ao_iconst (v := 0) dX2_mayEnd_23 (by decide) ?_
      refine ao_istore_n 3 (lo' := [some (.ref (Γ.2.2.2 + r0)), some (.ref (Γ.2.2.2 + r1)), some (.ref (Γ.2.2.2 + r2)), some (.int (0 : Int32)), none]) dX2_mayEnd_24 rfl (Nat.le_of_ble_eq_true rfl) rfl ?_
      exact ih.2.2.1 r0 r1 r2 (0 : Int32) M ρ _ h
    · intro r0 r1 r2 x3 M ρ y h
      replace h := ao_ifF h (by decide)
      replace h := ao_ifF h (by decide)
      replace h := ao_ifT h rfl
      refine ao_aload_n 0 dX2_mayEnd_25 rfl rfl ?_
      obtain ⟨hk7, h⟩ := ao_some h
      refine an_getI r0 2 5 (q := (RX2, TX2, 7)) dX2_mayEnd_26 rfl hk7 (Nat.le_of_ble_eq_true rfl) rfl lf_X2_41 ?_
      refine ao_iconst (v := 3) dX2_mayEnd_29 (by decide) ?_
      refine ao_icmp_ne 101 dX2_mayEnd_30 (by decide) (fun c8 => ?_) (fun c8 => ?_)
      · replace h := ao_ifF h c8
        exact ih.2.2.2.2.1 r0 r1 r2 x3 M ρ _ h
      · replace h := ao_ifT h c8
        refine ao_iload_n 3 dX2_mayEnd_33 rfl rfl ?_
        refine ao_aload_n 2 dX2_mayEnd_34 rfl rfl ?_
        obtain ⟨hk9, h⟩ := ao_some h
        refine an_getI r2 3 3 (q := (RX3, TX3, 12)) dX2_mayEnd_35 rfl hk9 (Nat.le_of_ble_eq_true rfl) rfl lf_X2_257 ?_
        refine ao_icmp_ge 101 dX2_mayEnd_38 (by decide) (fun c10 => ?_) (fun c10 => ?_)
        · replace h := ao_ifT h c10
          exact ih.2.2.2.2.1 r0 r1 r2 x3 M ρ _ h
        · replace h := ao_ifF h c10
          refine ao_iload_n 3 dX2_mayEnd_41 rfl rfl ?_
          refine ao_bipush (v := 26) dX2_mayEnd_42 (by decide) ?_
          refine ao_icmp_ge 101 dX2_mayEnd_44 (by decide) (fun c11 => ?_) (fun c11 => ?_)
          · replace h := ao_ifT h c11
            exact ih.2.2.2.2.1 r0 r1 r2 x3 M ρ _ h
          · replace h := ao_ifF h c11
            refine ao_aload_n 0 dX2_mayEnd_47 rfl rfl ?_
            refine ao_aload_n 1 dX2_mayEnd_48 rfl rfl ?_
            refine ao_aload_n 2 dX2_mayEnd_49 rfl rfl ?_
            obtain ⟨j12, hj12, h⟩ := ao_bind h
            refine an_getR r2 3 0 (q := (RX3, TX3, 12)) dX2_mayEnd_50 rfl hk9 (Nat.le_of_ble_eq_true rfl) rfl lf_X2_264 hj12 ?_
            refine ao_iload_n 3 dX2_mayEnd_53 rfl rfl ?_
            obtain ⟨hk13, h⟩ := ao_some h
            obtain ⟨hb14, h⟩ := ao_some h
            refine an_iaload j12 dX2_mayEnd_54 hk13 hb14 ?_
            obtain ⟨p15, hp15, h⟩ := ao_bind h
            refine an_callVi r0 2 (q := (RX2, TX2, 7)) [.ref (Γ.2.2.2 + r1), .int (M j12 x3.toNatClampNeg)] (aX2_loserAbout (d - 1) (by omega) r0 r1 (M j12 x3.toNatClampNeg) M ρ hp15) dX2_mayEnd_55 lc_X2_248 li_X2_loserAbout ls_X2_loserAbout rfl hk7 rfl rfl (Nat.le_of_ble_eq_true rfl) (ao_hR (by omega) (by decide)) ?_
            refine an_topi (fun v16 hv16 => ?_)
            replace h := ao_letD h hv16
            refine ao_istore 4 (lo' := [some (.ref (Γ.2.2.2 + r0)), some (.ref (Γ.2.2.2 + r1)), some (.ref (Γ.2.2.2 + r2)), some (.int x3), some (.int v16)]) dX2_mayEnd_58 (Nat.le_of_ble_eq_true rfl) rfl ?_
            refine ao_iload 4 dX2_mayEnd_60 rfl ?_
            refine ao_if_lt 84 dX2_mayEnd_62 (by decide) (fun c17 => ?_) (fun c17 => ?_)
            · replace h := ao_ifT h c17
              exact ih.2.2.2.1 r0 r1 r2 x3 v16 p15.2 ρ _ h
            · replace h := ao_ifF h c17
              refine ao_iload 4 dX2_mayEnd_65 rfl ?_
              refine ao_bipush (v := 6) dX2_mayEnd_67 (by decide) ?_
              refine ao_icmp_ge 84 dX2_mayEnd_69 (by decide) (fun c18 => ?_) (fun c18 => ?_)
              · replace h := ao_ifT h c18
                exact ih.2.2.2.1 r0 r1 r2 x3 v16 p15.2 ρ _ h
              · replace h := ao_ifF h c18
                refine ao_aload_n 0 dX2_mayEnd_72 rfl rfl ?_
                refine ao_aload_n 0 dX2_mayEnd_73 rfl rfl ?_
                obtain ⟨j19, hj19, h⟩ := ao_bind h
                refine an_getR r0 2 1 (q := (RX2, TX2, 7)) dX2_mayEnd_74 rfl hk7 (Nat.le_of_ble_eq_true rfl) rfl lf_X2_34 hj19 ?_
                refine ao_iload 4 dX2_mayEnd_77 rfl ?_
                obtain ⟨hk20, h⟩ := ao_some h
                obtain ⟨hb21, h⟩ := ao_some h
                obtain ⟨j22, hj22, h⟩ := ao_bind h
                refine an_aaload j19 4 dX2_mayEnd_79 hk20 (by decide) hb21 hj22 ?_
                refine ao_iconst (v := 0) dX2_mayEnd_80 (by decide) ?_
                obtain ⟨p23, hp23, h⟩ := ao_bind h
                refine ba_callVv r0 2 (q := (RX2, TX2, 7)) [.ref (Γ.2.2.2 + j22), .int (0 : Int32)] (aX2_restart (d - 1) (by omega) n r0 j22 (0 : Int32) p15.2 ρ hp23) dX2_mayEnd_81 lc_X2_230 li_X2_restart ls_X2_restart rfl hk7 rfl rfl (Nat.le_of_ble_eq_true rfl) (ao_hR (by omega) (by decide)) (ao_leC (me_X2_restart n r0 j22 (0 : Int32) p15.2 ρ hp23) ((mX2_mayEnd n).2.2.2.1 r0 r1 r2 x3 v16 p23.1 p23.2 _ h)) (ao_leS (me_X2_restart n r0 j22 (0 : Int32) p15.2 ρ hp23) ((mX2_mayEnd n).2.2.2.1 r0 r1 r2 x3 v16 p23.1 p23.2 _ h)) ?_
                exact ih.2.2.2.1 r0 r1 r2 x3 v16 p23.1 p23.2 _ h
    · intro r0 r1 r2 x3 x4 M ρ y h
      replace h := ao_ifF h (by decide)
      replace h := ao_ifF h (by decide)
      replace h := ao_ifF h (by decide)
      replace h := ao_ifT h rfl
      refine ao_iload 4 dX2_mayEnd_84 rfl ?_
      refine ao_aload_n 1 dX2_mayEnd_86 rfl rfl ?_
      obtain ⟨hk24, h⟩ := ao_some h
      refine an_getI r1 7 0 (q := (RX7, TX7, 20)) dX2_mayEnd_87 rfl hk24 (Nat.le_of_ble_eq_true rfl) rfl lf_X2_171 ?_
      refine ao_icmp_ne 95 dX2_mayEnd_90 (by decide) (fun c25 => ?_) (fun c25 => ?_)
      · replace h := ao_ifF h c25
        obtain ⟨v26, hv26⟩ : ∃ z : Int32, z = x3 + (1 : Int32) := ⟨_, rfl⟩
        replace h := ao_letD h hv26
        refine ao_iinc 3 (v := v26) (lo' := [some (.ref (Γ.2.2.2 + r0)), some (.ref (Γ.2.2.2 + r1)), some (.ref (Γ.2.2.2 + r2)), some (.int v26), some (.int x4)]) dX2_mayEnd_95 rfl (by rw [hv26]; rfl) (Nat.le_of_ble_eq_true rfl) rfl ?_
        refine ao_goto 25 dX2_mayEnd_98 (by decide) ?_
        refine ao_loForget (lo' := [some (.ref (Γ.2.2.2 + r0)), some (.ref (Γ.2.2.2 + r1)), some (.ref (Γ.2.2.2 + r2)), some (.int v26), none]) (ao_fgS (ao_fgS (ao_fgS (ao_fgS (ao_fgN ao_fgZ))))) ?_
        exact ih.2.2.1 r0 r1 r2 v26 M ρ _ h
      · replace h := ao_ifT h c25
        refine ao_iconst (v := 0) dX2_mayEnd_93 (by decide) ?_
        cases h
        exact ao_ireturn dX2_mayEnd_94 rfl rfl ⟨rfl, rfl⟩
    · intro r0 r1 r2 x3 M ρ y h
      replace h := ao_ifF h (by decide)
      replace h := ao_ifF h (by decide)
      replace h := ao_ifF h (by decide)
      replace h := ao_ifF h (by decide)
      replace h := ao_ifT h rfl
      refine ao_aload_n 0 dX2_mayEnd_101 rfl rfl ?_
      refine ao_aload_n 1 dX2_mayEnd_102 rfl rfl ?_
      obtain ⟨hk27, h⟩ := ao_some h
      obtain ⟨p28, hp28, h⟩ := ao_bind h
      refine an_callVi r0 2 (q := (RX2, TX2, 7)) [.ref (Γ.2.2.2 + r1)] (aX2_outermostWrong (d - 1) (by omega) _ r0 r1 M ρ hp28) dX2_mayEnd_103 lc_X2_227 li_X2_outermostWrong ls_X2_outermostWrong rfl hk27 rfl rfl (Nat.le_of_ble_eq_true rfl) (ao_hR (by omega) (by decide)) ?_
      refine an_topi (fun v29 hv29 => ?_)
      replace h := ao_letD h hv29
      refine ao_istore_n 3 (lo' := [some (.ref (Γ.2.2.2 + r0)), some (.ref (Γ.2.2.2 + r1)), some (.ref (Γ.2.2.2 + r2)), some (.int v29), none]) dX2_mayEnd_106 rfl (Nat.le_of_ble_eq_true rfl) rfl ?_
      refine ao_aload_n 0 dX2_mayEnd_107 rfl rfl ?_
      refine ao_aload_n 1 dX2_mayEnd_108 rfl rfl ?_
      refine ao_iload_n 3 dX2_mayEnd_109 rfl rfl ?_
      obtain ⟨p30, hp30, h⟩ := ao_bind h
      refine ba_callVv r0 2 (q := (RX2, TX2, 7)) [.ref (Γ.2.2.2 + r1), .int v29] (aX2_restart (d - 1) (by omega) n r0 r1 v29 p28.2 ρ hp30) dX2_mayEnd_110 lc_X2_230 li_X2_restart ls_X2_restart rfl hk27 rfl rfl (Nat.le_of_ble_eq_true rfl) (ao_hR (by omega) (by decide)) (ao_leC (me_X2_restart n r0 r1 v29 p28.2 ρ hp30) ((mX2_mayEnd n).2.2.2.2.2 r0 r1 r2 v29 p30.1 p30.2 _ h)) (ao_leS (me_X2_restart n r0 r1 v29 p28.2 ρ hp30) ((mX2_mayEnd n).2.2.2.2.2 r0 r1 r2 v29 p30.1 p30.2 _ h)) ?_
      exact ih.2.2.2.2.2 r0 r1 r2 v29 p30.1 p30.2 _ h
    · intro r0 r1 r2 x3 M ρ y h
      replace h := ao_ifF h (by decide)
      replace h := ao_ifF h (by decide)
      replace h := ao_ifF h (by decide)
      replace h := ao_ifF h (by decide)
      replace h := ao_ifF h (by decide)
      replace h := ao_ifT h rfl
      refine ao_iload_n 3 dX2_mayEnd_113 rfl rfl ?_
      refine ao_if_ge 121 dX2_mayEnd_114 (by decide) (fun c31 => ?_) (fun c31 => ?_)
      · replace h := ao_ifT h c31
        refine ao_iconst (v := 0) dX2_mayEnd_121 (by decide) ?_
        cases h
        exact ao_ireturn dX2_mayEnd_122 rfl rfl ⟨rfl, rfl⟩
      · replace h := ao_ifF h c31
        refine ao_iconst (v := 1) dX2_mayEnd_117 (by decide) ?_
        refine ao_goto 122 dX2_mayEnd_118 (by decide) ?_
        cases h
        exact ao_ireturn dX2_mayEnd_122 rfl rfl ⟨rfl, rfl⟩
theorem me_X2_mayEnd (n : Nat) (r0 : Nat) (r1 : Nat) (M : ao_M) (ρ : ao_H) {y : Int32 × ao_S} (h : gX2_mayEnd n r0 r1 M ρ = some y) : ao_le ρ y.2.2 := (mX2_mayEnd n).1 r0 r1 M ρ y h
set_option maxRecDepth 100000 in
set_option maxHeartbeats 4000000 in
theorem aX2_mayEnd {Γ : ao_C} (d : Nat) (hd : 5 ≤ d) (n : Nat) (r0 : Nat) (r1 : Nat) (M : ao_M) (ρ : ao_H) {y : Int32 × ao_S} (h : gX2_mayEnd n r0 r1 M ρ = some y) : ao_A Γ uX2_mayEnd d (ao_dc ρ y.2.2) (ao_ds ρ y.2.2) [.ref (Γ.2.2.2 + r0), .ref (Γ.2.2.2 + r1)] (M, ρ) (ao_QI y) := by
  refine ao_of (by decide) (ao_cat1 (Nat.le_of_ble_eq_true rfl)) (Nat.le_of_ble_eq_true rfl) ?_
  show ao_W Γ uX2_mayEnd (ao_rm d (ao_dc ρ y.2.2) (ao_ds ρ y.2.2)) (ao_Q Γ (ao_QI y) (ao_dc ρ y.2.2) (ao_ds ρ y.2.2)) (ao_dc ρ y.2.2) (ao_ds ρ y.2.2) 0 [some (.ref (Γ.2.2.2 + r0)), some (.ref (Γ.2.2.2 + r1)), none, none, none] [] (M, ρ)
  exact (wX2_mayEnd d hd _ _ n).1 r0 r1 M ρ y h

abbrev uX2_writeRecord : ao_Mi := (yX2_writeRecord, cX2_writeRecord, 4, none, [])
def fX2_writeRecord : Nat → Nat → Nat → Nat → Nat → Int32 →  ao_M → ao_H → Option (ao_M)
  | 0, _, _, _, _, _, _, _ => none
  | n + 1, pc, r0, r1, r2, x3, M, ρ =>
    if pc = 0 then
      if ρ.2.1 r0 = 12 then
      (ρ.1 r0 3).bind fun j2 =>
      if ρ.2.1 r1 = 17 then
      if ρ.2.1 j2 = 16 then
      (gX6_begin n j2 (M r1 0) (M r1 16) (M r0 6) M ρ).bind fun p5 =>
      fX2_writeRecord n 21 r0 r1 r2 (0 : Int32) p5 ρ
      else none
      else none
      else none
    else if pc = 21 then
      if ρ.2.1 r2 = 13 then
      if (M r2 3) ≤ x3 then
        fX2_writeRecord n 60 r0 r1 r2 x3 M ρ
      else
        if (26 : Int32) ≤ x3 then
          fX2_writeRecord n 60 r0 r1 r2 x3 M ρ
        else
          if ρ.2.1 r0 = 12 then
          (ρ.1 r0 3).bind fun j10 =>
          (ρ.1 r2 0).bind fun j11 =>
          if ρ.2.1 j11 = 0 then
          if ¬ (x3 < 0 ∨ ρ.2.2.1 j11 ≤ x3.toNatClampNeg) then
          (ρ.1 r2 1).bind fun j14 =>
          if ρ.2.1 j14 = 0 then
          if ¬ (x3 < 0 ∨ ρ.2.2.1 j14 ≤ x3.toNatClampNeg) then
          if ρ.2.1 j10 = 16 then
          (gX6_addRead n j10 (M j11 x3.toNatClampNeg) (M j14 x3.toNatClampNeg) M ρ).bind fun p18 =>
          ao_let (x3 + (1 : Int32)) fun v19 =>
          fX2_writeRecord n 21 r0 r1 r2 v19 p18 ρ
          else none
          else none
          else none
          else none
          else none
          else none
      else none
    else if pc = 60 then
      fX2_writeRecord n 62 r0 r1 r2 (0 : Int32) M ρ
    else if pc = 62 then
      if (26 : Int32) ≤ x3 then
        some M
      else
        if ρ.2.1 r2 = 13 then
        (gX3_wrote r2 x3 M ρ).bind fun p22 =>
        if p22.1 = 0 then
          fX2_writeRecord n 93 r0 r1 r2 x3 p22.2 ρ
        else
          if ρ.2.1 r0 = 12 then
          (ρ.1 r0 3).bind fun j25 =>
          (ρ.1 r0 0).bind fun j26 =>
          if ρ.2.1 j26 = 15 then
          (ρ.1 j26 0).bind fun j28 =>
          if ρ.2.1 j28 = 0 then
          if ¬ (x3 < 0 ∨ ρ.2.2.1 j28 ≤ x3.toNatClampNeg) then
          if ρ.2.1 j25 = 16 then
          (gX6_addWrite n j25 x3 (p22.2 j28 x3.toNatClampNeg) p22.2 ρ).bind fun p32 =>
          fX2_writeRecord n 93 r0 r1 r2 x3 p32 ρ
          else none
          else none
          else none
          else none
          else none
        else none
    else if pc = 93 then
      ao_let (x3 + (1 : Int32)) fun v33 =>
      fX2_writeRecord n 62 r0 r1 r2 v33 M ρ
    else none
def gX2_writeRecord (n : Nat) (r0 : Nat) (r1 : Nat) (r2 : Nat) (M : ao_M) (ρ : ao_H) : Option (ao_M) := fX2_writeRecord n 0 r0 r1 r2 0 M ρ
set_option maxRecDepth 100000 in
set_option maxHeartbeats 4000000 in
theorem wX2_writeRecord {Γ : ao_C} {ρ : ao_H} (d : Nat) (hd : 2 ≤ d) : ∀ n : Nat, (∀ (r0 : Nat) (r1 : Nat) (r2 : Nat) (M : ao_M) (y : ao_M), fX2_writeRecord n 0 r0 r1 r2 0 M ρ = some y → ao_W Γ uX2_writeRecord (ao_rm d 0 0) (ao_Q Γ (ao_PV ρ y) 0 0) 0 0 0 [some (.ref (Γ.2.2.2 + r0)), some (.ref (Γ.2.2.2 + r1)), some (.ref (Γ.2.2.2 + r2)), none] [] (M, ρ)) ∧ (∀ (r0 : Nat) (r1 : Nat) (r2 : Nat) (x3 : Int32) (M : ao_M) (y : ao_M), fX2_writeRecord n 21 r0 r1 r2 x3 M ρ = some y → ao_W Γ uX2_writeRecord (ao_rm d 0 0) (ao_Q Γ (ao_PV ρ y) 0 0) 0 0 21 [some (.ref (Γ.2.2.2 + r0)), some (.ref (Γ.2.2.2 + r1)), some (.ref (Γ.2.2.2 + r2)), some (.int x3)] [] (M, ρ)) ∧ (∀ (r0 : Nat) (r1 : Nat) (r2 : Nat) (x3 : Int32) (M : ao_M) (y : ao_M), fX2_writeRecord n 60 r0 r1 r2 x3 M ρ = some y → ao_W Γ uX2_writeRecord (ao_rm d 0 0) (ao_Q Γ (ao_PV ρ y) 0 0) 0 0 60 [some (.ref (Γ.2.2.2 + r0)), some (.ref (Γ.2.2.2 + r1)), some (.ref (Γ.2.2.2 + r2)), some (.int x3)] [] (M, ρ)) ∧ (∀ (r0 : Nat) (r1 : Nat) (r2 : Nat) (x3 : Int32) (M : ao_M) (y : ao_M), fX2_writeRecord n 62 r0 r1 r2 x3 M ρ = some y → ao_W Γ uX2_writeRecord (ao_rm d 0 0) (ao_Q Γ (ao_PV ρ y) 0 0) 0 0 62 [some (.ref (Γ.2.2.2 + r0)), some (.ref (Γ.2.2.2 + r1)), some (.ref (Γ.2.2.2 + r2)), some (.int x3)] [] (M, ρ)) ∧ (∀ (r0 : Nat) (r1 : Nat) (r2 : Nat) (x3 : Int32) (M : ao_M) (y : ao_M), fX2_writeRecord n 93 r0 r1 r2 x3 M ρ = some y → ao_W Γ uX2_writeRecord (ao_rm d 0 0) (ao_Q Γ (ao_PV ρ y) 0 0) 0 0 93 [some (.ref (Γ.2.2.2 + r0)), some (.ref (Γ.2.2.2 + r1)), some (.ref (Γ.2.2.2 + r2)), some (.int x3)] [] (M, ρ)) := by
  intro n
  induction n with
  | zero => exact ⟨fun _ _ _ _ _ h => ao_no h, fun _ _ _ _ _ _ h => ao_no h, fun _ _ _ _ _ _ h => ao_no h, fun _ _ _ _ _ _ h => ao_no h, fun _ _ _ _ _ _ h => ao_no h⟩
  | succ n ih =>
    refine ⟨?_, ?_, ?_, ?_, ?_⟩
    · intro r0 r1 r2 M y h
      replace h := ao_ifT h rfl
      refine ao_aload_n 0 dX2_writeRecord_0 rfl rfl ?_
      obtain ⟨hk1, h⟩ := ao_some h
      obtain ⟨j2, hj2, h⟩ := ao_bind h
      refine an_getR r0 2 3 (q := (RX2, TX2, 7)) dX2_writeRecord_1 rfl hk1 (Nat.le_of_ble_eq_true rfl) rfl lf_X2_28 hj2 ?_
      refine ao_aload_n 1 dX2_writeRecord_4 rfl rfl ?_
      obtain ⟨hk3, h⟩ := ao_some h
      refine an_getI r1 7 0 (q := (RX7, TX7, 20)) dX2_writeRecord_5 rfl hk3 (Nat.le_of_ble_eq_true rfl) rfl lf_X2_171 ?_
      refine ao_aload_n 1 dX2_writeRecord_8 rfl rfl ?_
      refine an_getI r1 7 16 (q := (RX7, TX7, 20)) dX2_writeRecord_9 rfl hk3 (Nat.le_of_ble_eq_true rfl) rfl lf_X2_286 ?_
      refine ao_aload_n 0 dX2_writeRecord_12 rfl rfl ?_
      refine an_getI r0 2 6 (q := (RX2, TX2, 7)) dX2_writeRecord_13 rfl hk1 (Nat.le_of_ble_eq_true rfl) rfl lf_X2_77 ?_
      obtain ⟨hk4, h⟩ := ao_some h
      obtain ⟨p5, hp5, h⟩ := ao_bind h
      refine an_callVv j2 6 (q := (RX6, TX6, 11)) [.int (M r1 0), .int (M r1 16), .int (M r0 6)] (aX6_begin (d - 1) (by omega) _ j2 (M r1 0) (M r1 16) (M r0 6) M ρ hp5) dX2_writeRecord_16 lc_X2_184 li_X6_begin ls_X6_begin rfl hk4 rfl rfl (Nat.le_of_ble_eq_true rfl) (ao_hR (by omega) (by decide)) ?_
      refine ao_iconst (v := 0) dX2_writeRecord_19 (by decide) ?_
      refine ao_istore_n 3 (lo' := [some (.ref (Γ.2.2.2 + r0)), some (.ref (Γ.2.2.2 + r1)), some (.ref (Γ.2.2.2 + r2)), some (.int (0 : Int32))]) dX2_writeRecord_20 rfl (Nat.le_of_ble_eq_true rfl) rfl ?_
      exact ih.2.1 r0 r1 r2 (0 : Int32) p5 _ h
    · intro r0 r1 r2 x3 M y h
      replace h := ao_ifF h (by decide)
      replace h := ao_ifT h rfl
      refine ao_iload_n 3 dX2_writeRecord_21 rfl rfl ?_
      refine ao_aload_n 2 dX2_writeRecord_22 rfl rfl ?_
      obtain ⟨hk6, h⟩ := ao_some h
      refine an_getI r2 3 3 (q := (RX3, TX3, 12)) dX2_writeRecord_23 rfl hk6 (Nat.le_of_ble_eq_true rfl) rfl lf_X2_257 ?_
      refine ao_icmp_ge 60 dX2_writeRecord_26 (by decide) (fun c7 => ?_) (fun c7 => ?_)
      · replace h := ao_ifT h c7
        exact ih.2.2.1 r0 r1 r2 x3 M _ h
      · replace h := ao_ifF h c7
        refine ao_iload_n 3 dX2_writeRecord_29 rfl rfl ?_
        refine ao_bipush (v := 26) dX2_writeRecord_30 (by decide) ?_
        refine ao_icmp_ge 60 dX2_writeRecord_32 (by decide) (fun c8 => ?_) (fun c8 => ?_)
        · replace h := ao_ifT h c8
          exact ih.2.2.1 r0 r1 r2 x3 M _ h
        · replace h := ao_ifF h c8
          refine ao_aload_n 0 dX2_writeRecord_35 rfl rfl ?_
          obtain ⟨hk9, h⟩ := ao_some h
          obtain ⟨j10, hj10, h⟩ := ao_bind h
          refine an_getR r0 2 3 (q := (RX2, TX2, 7)) dX2_writeRecord_36 rfl hk9 (Nat.le_of_ble_eq_true rfl) rfl lf_X2_28 hj10 ?_
          refine ao_aload_n 2 dX2_writeRecord_39 rfl rfl ?_
          obtain ⟨j11, hj11, h⟩ := ao_bind h
          refine an_getR r2 3 0 (q := (RX3, TX3, 12)) dX2_writeRecord_40 rfl hk6 (Nat.le_of_ble_eq_true rfl) rfl lf_X2_264 hj11 ?_
          refine ao_iload_n 3 dX2_writeRecord_43 rfl rfl ?_
          obtain ⟨hk12, h⟩ := ao_some h
          obtain ⟨hb13, h⟩ := ao_some h
          refine an_iaload j11 dX2_writeRecord_44 hk12 hb13 ?_
          refine ao_aload_n 2 dX2_writeRecord_45 rfl rfl ?_
          obtain ⟨j14, hj14, h⟩ := ao_bind h
          refine an_getR r2 3 1 (q := (RX3, TX3, 12)) dX2_writeRecord_46 rfl hk6 (Nat.le_of_ble_eq_true rfl) rfl lf_X2_267 hj14 ?_
          refine ao_iload_n 3 dX2_writeRecord_49 rfl rfl ?_
          obtain ⟨hk15, h⟩ := ao_some h
          obtain ⟨hb16, h⟩ := ao_some h
          refine an_iaload j14 dX2_writeRecord_50 hk15 hb16 ?_
          obtain ⟨hk17, h⟩ := ao_some h
          obtain ⟨p18, hp18, h⟩ := ao_bind h
          refine an_callVv j10 6 (q := (RX6, TX6, 11)) [.int (M j11 x3.toNatClampNeg), .int (M j14 x3.toNatClampNeg)] (aX6_addRead (d - 1) (by omega) _ j10 (M j11 x3.toNatClampNeg) (M j14 x3.toNatClampNeg) M ρ hp18) dX2_writeRecord_51 lc_X2_191 li_X6_addRead ls_X6_addRead rfl hk17 rfl rfl (Nat.le_of_ble_eq_true rfl) (ao_hR (by omega) (by decide)) ?_
          obtain ⟨v19, hv19⟩ : ∃ z : Int32, z = x3 + (1 : Int32) := ⟨_, rfl⟩
          replace h := ao_letD h hv19
          refine ao_iinc 3 (v := v19) (lo' := [some (.ref (Γ.2.2.2 + r0)), some (.ref (Γ.2.2.2 + r1)), some (.ref (Γ.2.2.2 + r2)), some (.int v19)]) dX2_writeRecord_54 rfl (by rw [hv19]; rfl) (Nat.le_of_ble_eq_true rfl) rfl ?_
          refine ao_goto 21 dX2_writeRecord_57 (by decide) ?_
          exact ih.2.1 r0 r1 r2 v19 p18 _ h
    · intro r0 r1 r2 x3 M y h
      replace h := ao_ifF h (by decide)
      replace h := ao_ifF h (by decide)
      replace h := ao_ifT h rfl
      refine ao_iconst (v := 0) dX2_writeRecord_60 (by decide) ?_
      refine ao_istore_n 3 (lo' := [some (.ref (Γ.2.2.2 + r0)), some (.ref (Γ.2.2.2 + r1)), some (.ref (Γ.2.2.2 + r2)), some (.int (0 : Int32))]) dX2_writeRecord_61 rfl (Nat.le_of_ble_eq_true rfl) rfl ?_
      exact ih.2.2.2.1 r0 r1 r2 (0 : Int32) M _ h
    · intro r0 r1 r2 x3 M y h
      replace h := ao_ifF h (by decide)
      replace h := ao_ifF h (by decide)
      replace h := ao_ifF h (by decide)
      replace h := ao_ifT h rfl
      refine ao_iload_n 3 dX2_writeRecord_62 rfl rfl ?_
      refine ao_bipush (v := 26) dX2_writeRecord_63 (by decide) ?_
      refine ao_icmp_ge 99 dX2_writeRecord_65 (by decide) (fun c20 => ?_) (fun c20 => ?_)
      · replace h := ao_ifT h c20
        cases h
        exact ao_return dX2_writeRecord_99 rfl ⟨rfl, rfl⟩
      · replace h := ao_ifF h c20
        refine ao_aload_n 2 dX2_writeRecord_68 rfl rfl ?_
        refine ao_iload_n 3 dX2_writeRecord_69 rfl rfl ?_
        obtain ⟨hk21, h⟩ := ao_some h
        obtain ⟨p22, hp22, h⟩ := ao_bind h
        refine an_callVi r2 3 (q := (RX3, TX3, 12)) [.int x3] (aX3_wrote (d - 1) (by omega) r2 x3 M ρ hp22) dX2_writeRecord_70 lc_X2_217 li_X3_wrote ls_X3_wrote rfl hk21 rfl rfl (Nat.le_of_ble_eq_true rfl) (ao_hR (by omega) (by decide)) ?_
        refine ao_if_eq 93 dX2_writeRecord_73 (by decide) (fun c23 => ?_) (fun c23 => ?_)
        · replace h := ao_ifT h c23
          exact ih.2.2.2.2 r0 r1 r2 x3 p22.2 _ h
        · replace h := ao_ifF h c23
          refine ao_aload_n 0 dX2_writeRecord_76 rfl rfl ?_
          obtain ⟨hk24, h⟩ := ao_some h
          obtain ⟨j25, hj25, h⟩ := ao_bind h
          refine an_getR r0 2 3 (q := (RX2, TX2, 7)) dX2_writeRecord_77 rfl hk24 (Nat.le_of_ble_eq_true rfl) rfl lf_X2_28 hj25 ?_
          refine ao_iload_n 3 dX2_writeRecord_80 rfl rfl ?_
          refine ao_aload_n 0 dX2_writeRecord_81 rfl rfl ?_
          obtain ⟨j26, hj26, h⟩ := ao_bind h
          refine an_getR r0 2 0 (q := (RX2, TX2, 7)) dX2_writeRecord_82 rfl hk24 (Nat.le_of_ble_eq_true rfl) rfl lf_X2_12 hj26 ?_
          obtain ⟨hk27, h⟩ := ao_some h
          obtain ⟨j28, hj28, h⟩ := ao_bind h
          refine an_getR j26 5 0 (q := (RX5, TX5, 11)) dX2_writeRecord_85 rfl hk27 (Nat.le_of_ble_eq_true rfl) rfl lf_X2_188 hj28 ?_
          refine ao_iload_n 3 dX2_writeRecord_88 rfl rfl ?_
          obtain ⟨hk29, h⟩ := ao_some h
          obtain ⟨hb30, h⟩ := ao_some h
          refine an_iaload j28 dX2_writeRecord_89 hk29 hb30 ?_
          obtain ⟨hk31, h⟩ := ao_some h
          obtain ⟨p32, hp32, h⟩ := ao_bind h
          refine an_callVv j25 6 (q := (RX6, TX6, 11)) [.int x3, .int (p22.2 j28 x3.toNatClampNeg)] (aX6_addWrite (d - 1) (by omega) _ j25 x3 (p22.2 j28 x3.toNatClampNeg) p22.2 ρ hp32) dX2_writeRecord_90 lc_X2_241 li_X6_addWrite ls_X6_addWrite rfl hk31 rfl rfl (Nat.le_of_ble_eq_true rfl) (ao_hR (by omega) (by decide)) ?_
          exact ih.2.2.2.2 r0 r1 r2 x3 p32 _ h
    · intro r0 r1 r2 x3 M y h
      replace h := ao_ifF h (by decide)
      replace h := ao_ifF h (by decide)
      replace h := ao_ifF h (by decide)
      replace h := ao_ifF h (by decide)
      replace h := ao_ifT h rfl
      obtain ⟨v33, hv33⟩ : ∃ z : Int32, z = x3 + (1 : Int32) := ⟨_, rfl⟩
      replace h := ao_letD h hv33
      refine ao_iinc 3 (v := v33) (lo' := [some (.ref (Γ.2.2.2 + r0)), some (.ref (Γ.2.2.2 + r1)), some (.ref (Γ.2.2.2 + r2)), some (.int v33)]) dX2_writeRecord_93 rfl (by rw [hv33]; rfl) (Nat.le_of_ble_eq_true rfl) rfl ?_
      refine ao_goto 62 dX2_writeRecord_96 (by decide) ?_
      exact ih.2.2.2.1 r0 r1 r2 v33 M _ h
set_option maxRecDepth 100000 in
set_option maxHeartbeats 4000000 in
theorem aX2_writeRecord {Γ : ao_C} (d : Nat) (hd : 2 ≤ d) (n : Nat) (r0 : Nat) (r1 : Nat) (r2 : Nat) (M : ao_M) (ρ : ao_H) {y : ao_M} (h : gX2_writeRecord n r0 r1 r2 M ρ = some y) : ao_A Γ uX2_writeRecord d 0 0 [.ref (Γ.2.2.2 + r0), .ref (Γ.2.2.2 + r1), .ref (Γ.2.2.2 + r2)] (M, ρ) (ao_PV ρ y) := by
  refine ao_of (by decide) (ao_cat1 (Nat.le_of_ble_eq_true rfl)) (Nat.le_of_ble_eq_true rfl) ?_
  show ao_W Γ uX2_writeRecord (ao_rm d 0 0) (ao_Q Γ (ao_PV ρ y) 0 0) 0 0 0 [some (.ref (Γ.2.2.2 + r0)), some (.ref (Γ.2.2.2 + r1)), some (.ref (Γ.2.2.2 + r2)), none] [] (M, ρ)
  exact (wX2_writeRecord d hd n).1 r0 r1 r2 M y h

abbrev uX2_fallAsleep : ao_Mi := (yX2_fallAsleep, cX2_fallAsleep, 2, (some .int), [])
def fX2_fallAsleep : Nat → Nat → Nat → Nat →  ao_M → ao_H → Option (Int32 × ao_S)
  | 0, _, _, _, _, _ => none
  | n + 1, pc, r0, r1, M, ρ =>
    if pc = 0 then
      (gX2_foldReads n r1 (0 : Int32) M ρ).bind fun p1 =>
      if ρ.2.1 r0 = 12 then
      (gX2_takeBack n r0 r1 (0 : Int32) p1 ρ).bind fun p3 =>
      if ρ.2.1 r1 = 17 then
      ao_let (ao_u p3 r1 8 (1 : Int32)) fun M5 =>
      (ρ.1 r0 0).bind fun j6 =>
      if ρ.2.1 j6 = 15 then
      (gX5_release n j6 (M5 r1 0) M5 ρ).bind fun p8 =>
      fX2_fallAsleep n 27 r0 r1 p8.1 p8.2
      else none
      else none
      else none
    else if pc = 27 then
      if ρ.2.1 r1 = 17 then
      ao_let (ao_u M r1 2 (3 : Int32)) fun M10 =>
      some ((3 : Int32), M10, ρ)
      else none
    else none
def gX2_fallAsleep (n : Nat) (r0 : Nat) (r1 : Nat) (M : ao_M) (ρ : ao_H) : Option (Int32 × ao_S) := fX2_fallAsleep n 0 r0 r1 M ρ
set_option maxRecDepth 100000 in
set_option maxHeartbeats 4000000 in
theorem mX2_fallAsleep : ∀ n : Nat, (∀ (r0 : Nat) (r1 : Nat) (M : ao_M) (ρ : ao_H) (y : Int32 × ao_S), fX2_fallAsleep n 0 r0 r1 M ρ = some y → ao_le ρ y.2.2) ∧ (∀ (r0 : Nat) (r1 : Nat) (M : ao_M) (ρ : ao_H) (y : Int32 × ao_S), fX2_fallAsleep n 27 r0 r1 M ρ = some y → ao_le ρ y.2.2) := by
  intro n
  induction n with
  | zero => exact ⟨fun _ _ _ _ _ h => ao_no h, fun _ _ _ _ _ h => ao_no h⟩
  | succ n ih =>
    refine ⟨?_, ?_⟩
    · intro r0 r1 M ρ y h
      replace h := ao_ifT h rfl
      obtain ⟨p1, hp1, h⟩ := ao_bind h
      obtain ⟨-, h⟩ := ao_some h
      obtain ⟨p3, hp3, h⟩ := ao_bind h
      obtain ⟨-, h⟩ := ao_some h
      replace h := ao_letD h rfl
      generalize (ao_u p3 r1 8 (1 : Int32)) = M5 at h
      obtain ⟨j6, hj6, h⟩ := ao_bind h
      obtain ⟨-, h⟩ := ao_some h
      obtain ⟨p8, hp8, h⟩ := ao_bind h
      exact ao_le_tr (me_X5_release n j6 (M5 r1 0) M5 ρ hp8) (ih.2 r0 r1 p8.1 p8.2 _ h)
    · intro r0 r1 M ρ y h
      replace h := ao_ifF h (by decide)
      replace h := ao_ifT h rfl
      obtain ⟨-, h⟩ := ao_some h
      replace h := ao_letD h rfl
      generalize (ao_u M r1 2 (3 : Int32)) = M10 at h
      cases h
      exact ao_le_rf _
set_option maxRecDepth 100000 in
set_option maxHeartbeats 4000000 in
theorem wX2_fallAsleep {Γ : ao_C} (d : Nat) (hd : 4 ≤ d) (MC MS : Nat) : ∀ n : Nat, (∀ (r0 : Nat) (r1 : Nat) (M : ao_M) (ρ : ao_H) (y : Int32 × ao_S), fX2_fallAsleep n 0 r0 r1 M ρ = some y → ao_W Γ uX2_fallAsleep (ao_rm d MC MS) (ao_Q Γ (ao_QI y) MC MS) (ao_dc ρ y.2.2) (ao_ds ρ y.2.2) 0 [some (.ref (Γ.2.2.2 + r0)), some (.ref (Γ.2.2.2 + r1))] [] (M, ρ)) ∧ (∀ (r0 : Nat) (r1 : Nat) (M : ao_M) (ρ : ao_H) (y : Int32 × ao_S), fX2_fallAsleep n 27 r0 r1 M ρ = some y → ao_W Γ uX2_fallAsleep (ao_rm d MC MS) (ao_Q Γ (ao_QI y) MC MS) (ao_dc ρ y.2.2) (ao_ds ρ y.2.2) 27 [some (.ref (Γ.2.2.2 + r0)), some (.ref (Γ.2.2.2 + r1))] [] (M, ρ)) := by
  intro n
  induction n with
  | zero => exact ⟨fun _ _ _ _ _ h => ao_no h, fun _ _ _ _ _ h => ao_no h⟩
  | succ n ih =>
    refine ⟨?_, ?_⟩
    · intro r0 r1 M ρ y h
      replace h := ao_ifT h rfl
      refine ao_aload_n 1 dX2_fallAsleep_0 rfl rfl ?_
      refine ao_iconst (v := 0) dX2_fallAsleep_1 (by decide) ?_
      obtain ⟨p1, hp1, h⟩ := ao_bind h
      refine an_callSv [.ref (Γ.2.2.2 + r1), .int (0 : Int32)] (aX2_foldReads (d - 1) (by omega) _ r1 (0 : Int32) M ρ hp1) dX2_fallAsleep_2 lc_X2_310 lt_X2_foldReads rfl rfl (Nat.le_of_ble_eq_true rfl) (ao_hR (by omega) (by decide)) ?_
      refine ao_aload_n 0 dX2_fallAsleep_5 rfl rfl ?_
      refine ao_aload_n 1 dX2_fallAsleep_6 rfl rfl ?_
      refine ao_iconst (v := 0) dX2_fallAsleep_7 (by decide) ?_
      obtain ⟨hk2, h⟩ := ao_some h
      obtain ⟨p3, hp3, h⟩ := ao_bind h
      refine an_callVv r0 2 (q := (RX2, TX2, 7)) [.ref (Γ.2.2.2 + r1), .int (0 : Int32)] (aX2_takeBack (d - 1) (by omega) _ r0 r1 (0 : Int32) p1 ρ hp3) dX2_fallAsleep_8 lc_X2_273 li_X2_takeBack ls_X2_takeBack rfl hk2 rfl rfl (Nat.le_of_ble_eq_true rfl) (ao_hR (by omega) (by decide)) ?_
      refine ao_aload_n 1 dX2_fallAsleep_11 rfl rfl ?_
      refine ao_iconst (v := 1) dX2_fallAsleep_12 (by decide) ?_
      obtain ⟨hk4, h⟩ := ao_some h
      refine an_putI r1 7 8 (q := (RX7, TX7, 20)) dX2_fallAsleep_13 rfl hk4 (Nat.le_of_ble_eq_true rfl) lf_X2_165 rfl rfl rfl rfl (fun M5 hM5 => ?_)
      replace h := ao_letD h hM5
      refine ao_aload_n 0 dX2_fallAsleep_16 rfl rfl ?_
      obtain ⟨j6, hj6, h⟩ := ao_bind h
      refine an_getR r0 2 0 (q := (RX2, TX2, 7)) dX2_fallAsleep_17 rfl hk2 (Nat.le_of_ble_eq_true rfl) rfl lf_X2_12 hj6 ?_
      refine ao_aload_n 1 dX2_fallAsleep_20 rfl rfl ?_
      refine an_getI r1 7 0 (q := (RX7, TX7, 20)) dX2_fallAsleep_21 rfl hk4 (Nat.le_of_ble_eq_true rfl) rfl lf_X2_171 ?_
      obtain ⟨hk7, h⟩ := ao_some h
      obtain ⟨p8, hp8, h⟩ := ao_bind h
      refine ba_callVv j6 5 (q := (RX5, TX5, 11)) [.int (M5 r1 0)] (aX5_release (d - 1) (by omega) n j6 (M5 r1 0) M5 ρ hp8) dX2_fallAsleep_24 lc_X2_283 li_X5_release ls_X5_release rfl hk7 rfl rfl (Nat.le_of_ble_eq_true rfl) (ao_hR (by omega) (by decide)) (ao_leC (me_X5_release n j6 (M5 r1 0) M5 ρ hp8) ((mX2_fallAsleep n).2 r0 r1 p8.1 p8.2 _ h)) (ao_leS (me_X5_release n j6 (M5 r1 0) M5 ρ hp8) ((mX2_fallAsleep n).2 r0 r1 p8.1 p8.2 _ h)) ?_
      exact ih.2 r0 r1 p8.1 p8.2 _ h
    · intro r0 r1 M ρ y h
      replace h := ao_ifF h (by decide)
      replace h := ao_ifT h rfl
      refine ao_aload_n 1 dX2_fallAsleep_27 rfl rfl ?_
      refine ao_iconst (v := 3) dX2_fallAsleep_28 (by decide) ?_
      obtain ⟨hk9, h⟩ := ao_some h
      refine an_putI r1 7 2 (q := (RX7, TX7, 20)) dX2_fallAsleep_29 rfl hk9 (Nat.le_of_ble_eq_true rfl) lf_X2_55 rfl rfl rfl rfl (fun M10 hM10 => ?_)
      replace h := ao_letD h hM10
      refine ao_iconst (v := 3) dX2_fallAsleep_32 (by decide) ?_
      cases h
      exact ao_ireturn dX2_fallAsleep_33 rfl rfl ⟨rfl, rfl⟩
theorem me_X2_fallAsleep (n : Nat) (r0 : Nat) (r1 : Nat) (M : ao_M) (ρ : ao_H) {y : Int32 × ao_S} (h : gX2_fallAsleep n r0 r1 M ρ = some y) : ao_le ρ y.2.2 := (mX2_fallAsleep n).1 r0 r1 M ρ y h
set_option maxRecDepth 100000 in
set_option maxHeartbeats 4000000 in
theorem aX2_fallAsleep {Γ : ao_C} (d : Nat) (hd : 4 ≤ d) (n : Nat) (r0 : Nat) (r1 : Nat) (M : ao_M) (ρ : ao_H) {y : Int32 × ao_S} (h : gX2_fallAsleep n r0 r1 M ρ = some y) : ao_A Γ uX2_fallAsleep d (ao_dc ρ y.2.2) (ao_ds ρ y.2.2) [.ref (Γ.2.2.2 + r0), .ref (Γ.2.2.2 + r1)] (M, ρ) (ao_QI y) := by
  refine ao_of (by decide) (ao_cat1 (Nat.le_of_ble_eq_true rfl)) (Nat.le_of_ble_eq_true rfl) ?_
  show ao_W Γ uX2_fallAsleep (ao_rm d (ao_dc ρ y.2.2) (ao_ds ρ y.2.2)) (ao_Q Γ (ao_QI y) (ao_dc ρ y.2.2) (ao_ds ρ y.2.2)) (ao_dc ρ y.2.2) (ao_ds ρ y.2.2) 0 [some (.ref (Γ.2.2.2 + r0)), some (.ref (Γ.2.2.2 + r1))] [] (M, ρ)
  exact (wX2_fallAsleep d hd _ _ n).1 r0 r1 M ρ y h

abbrev uX2_stir : ao_Mi := (yX2_stir, cX2_stir, 2, (some .int), [])
def fX2_stir : Nat → Nat → Nat → Nat →  ao_M → ao_H → Option (Int32 × ao_S)
  | 0, _, _, _, _, _ => none
  | n + 1, pc, r0, r1, M, ρ =>
    if pc = 0 then
      if ρ.2.1 r0 = 12 then
      (gX2_hasNews n r0 r1 M ρ).bind fun p2 =>
      if p2.1 = 0 then
        some ((3 : Int32), p2.2, ρ)
      else
        (gX2_isBusy n r0 r1 p2.2 ρ).bind fun p4 =>
        if p4.1 = 0 then
          if ρ.2.1 r1 = 17 then
          ao_let (ao_u p4.2 r1 2 (2 : Int32)) fun M7 =>
          (gX2_restart n r0 r1 (0 : Int32) M7 ρ).bind fun p8 =>
          fX2_stir n 31 r0 r1 p8.1 p8.2
          else none
        else
          some ((4 : Int32), p4.2, ρ)
      else none
    else if pc = 31 then
      some ((6 : Int32), M, ρ)
    else none
def gX2_stir (n : Nat) (r0 : Nat) (r1 : Nat) (M : ao_M) (ρ : ao_H) : Option (Int32 × ao_S) := fX2_stir n 0 r0 r1 M ρ
set_option maxRecDepth 100000 in
set_option maxHeartbeats 4000000 in
theorem mX2_stir : ∀ n : Nat, (∀ (r0 : Nat) (r1 : Nat) (M : ao_M) (ρ : ao_H) (y : Int32 × ao_S), fX2_stir n 0 r0 r1 M ρ = some y → ao_le ρ y.2.2) ∧ (∀ (r0 : Nat) (r1 : Nat) (M : ao_M) (ρ : ao_H) (y : Int32 × ao_S), fX2_stir n 31 r0 r1 M ρ = some y → ao_le ρ y.2.2) := by
  intro n
  induction n with
  | zero => exact ⟨fun _ _ _ _ _ h => ao_no h, fun _ _ _ _ _ h => ao_no h⟩
  | succ n ih =>
    refine ⟨?_, ?_⟩
    · intro r0 r1 M ρ y h
      replace h := ao_ifT h rfl
      obtain ⟨-, h⟩ := ao_some h
      obtain ⟨p2, hp2, h⟩ := ao_bind h
      rcases ao_ifC h with h | h
      · cases h
        exact ao_le_rf _
      · obtain ⟨p4, hp4, h⟩ := ao_bind h
        rcases ao_ifC h with h | h
        · obtain ⟨-, h⟩ := ao_some h
          replace h := ao_letD h rfl
          generalize (ao_u p4.2 r1 2 (2 : Int32)) = M7 at h
          obtain ⟨p8, hp8, h⟩ := ao_bind h
          exact ao_le_tr (me_X2_restart n r0 r1 (0 : Int32) M7 ρ hp8) (ih.2 r0 r1 p8.1 p8.2 _ h)
        · cases h
          exact ao_le_rf _
    · intro r0 r1 M ρ y h
      replace h := ao_ifF h (by decide)
      replace h := ao_ifT h rfl
      cases h
      exact ao_le_rf _
set_option maxRecDepth 100000 in
set_option maxHeartbeats 4000000 in
theorem wX2_stir {Γ : ao_C} (d : Nat) (hd : 5 ≤ d) (MC MS : Nat) : ∀ n : Nat, (∀ (r0 : Nat) (r1 : Nat) (M : ao_M) (ρ : ao_H) (y : Int32 × ao_S), fX2_stir n 0 r0 r1 M ρ = some y → ao_W Γ uX2_stir (ao_rm d MC MS) (ao_Q Γ (ao_QI y) MC MS) (ao_dc ρ y.2.2) (ao_ds ρ y.2.2) 0 [some (.ref (Γ.2.2.2 + r0)), some (.ref (Γ.2.2.2 + r1))] [] (M, ρ)) ∧ (∀ (r0 : Nat) (r1 : Nat) (M : ao_M) (ρ : ao_H) (y : Int32 × ao_S), fX2_stir n 31 r0 r1 M ρ = some y → ao_W Γ uX2_stir (ao_rm d MC MS) (ao_Q Γ (ao_QI y) MC MS) (ao_dc ρ y.2.2) (ao_ds ρ y.2.2) 31 [some (.ref (Γ.2.2.2 + r0)), some (.ref (Γ.2.2.2 + r1))] [] (M, ρ)) := by
  intro n
  induction n with
  | zero => exact ⟨fun _ _ _ _ _ h => ao_no h, fun _ _ _ _ _ h => ao_no h⟩
  | succ n ih =>
    refine ⟨?_, ?_⟩
    · intro r0 r1 M ρ y h
      replace h := ao_ifT h rfl
      refine ao_aload_n 0 dX2_stir_0 rfl rfl ?_
      refine ao_aload_n 1 dX2_stir_1 rfl rfl ?_
      obtain ⟨hk1, h⟩ := ao_some h
      obtain ⟨p2, hp2, h⟩ := ao_bind h
      refine an_callVi r0 2 (q := (RX2, TX2, 7)) [.ref (Γ.2.2.2 + r1)] (aX2_hasNews (d - 1) (by omega) _ r0 r1 M ρ hp2) dX2_stir_2 lc_X2_355 li_X2_hasNews ls_X2_hasNews rfl hk1 rfl rfl (Nat.le_of_ble_eq_true rfl) (ao_hR (by omega) (by decide)) ?_
      refine ao_if_ne 10 dX2_stir_5 (by decide) (fun c3 => ?_) (fun c3 => ?_)
      · replace h := ao_ifF h c3
        refine ao_aload_n 0 dX2_stir_10 rfl rfl ?_
        refine ao_aload_n 1 dX2_stir_11 rfl rfl ?_
        obtain ⟨p4, hp4, h⟩ := ao_bind h
        refine an_callVi r0 2 (q := (RX2, TX2, 7)) [.ref (Γ.2.2.2 + r1)] (aX2_isBusy (d - 1) (by omega) _ r0 r1 p2.2 ρ hp4) dX2_stir_12 lc_X2_316 li_X2_isBusy ls_X2_isBusy rfl hk1 rfl rfl (Nat.le_of_ble_eq_true rfl) (ao_hR (by omega) (by decide)) ?_
        refine ao_if_eq 20 dX2_stir_15 (by decide) (fun c5 => ?_) (fun c5 => ?_)
        · replace h := ao_ifT h c5
          refine ao_aload_n 1 dX2_stir_20 rfl rfl ?_
          refine ao_iconst (v := 2) dX2_stir_21 (by decide) ?_
          obtain ⟨hk6, h⟩ := ao_some h
          refine an_putI r1 7 2 (q := (RX7, TX7, 20)) dX2_stir_22 rfl hk6 (Nat.le_of_ble_eq_true rfl) lf_X2_55 rfl rfl rfl rfl (fun M7 hM7 => ?_)
          replace h := ao_letD h hM7
          refine ao_aload_n 0 dX2_stir_25 rfl rfl ?_
          refine ao_aload_n 1 dX2_stir_26 rfl rfl ?_
          refine ao_iconst (v := 0) dX2_stir_27 (by decide) ?_
          obtain ⟨p8, hp8, h⟩ := ao_bind h
          refine ba_callVv r0 2 (q := (RX2, TX2, 7)) [.ref (Γ.2.2.2 + r1), .int (0 : Int32)] (aX2_restart (d - 1) (by omega) n r0 r1 (0 : Int32) M7 ρ hp8) dX2_stir_28 lc_X2_230 li_X2_restart ls_X2_restart rfl hk1 rfl rfl (Nat.le_of_ble_eq_true rfl) (ao_hR (by omega) (by decide)) (ao_leC (me_X2_restart n r0 r1 (0 : Int32) M7 ρ hp8) ((mX2_stir n).2 r0 r1 p8.1 p8.2 _ h)) (ao_leS (me_X2_restart n r0 r1 (0 : Int32) M7 ρ hp8) ((mX2_stir n).2 r0 r1 p8.1 p8.2 _ h)) ?_
          exact ih.2 r0 r1 p8.1 p8.2 _ h
        · replace h := ao_ifF h c5
          refine ao_iconst (v := 4) dX2_stir_18 (by decide) ?_
          cases h
          exact ao_ireturn dX2_stir_19 rfl rfl ⟨rfl, rfl⟩
      · replace h := ao_ifT h c3
        refine ao_iconst (v := 3) dX2_stir_8 (by decide) ?_
        cases h
        exact ao_ireturn dX2_stir_9 rfl rfl ⟨rfl, rfl⟩
    · intro r0 r1 M ρ y h
      replace h := ao_ifF h (by decide)
      replace h := ao_ifT h rfl
      refine ao_bipush (v := 6) dX2_stir_31 (by decide) ?_
      cases h
      exact ao_ireturn dX2_stir_33 rfl rfl ⟨rfl, rfl⟩
theorem me_X2_stir (n : Nat) (r0 : Nat) (r1 : Nat) (M : ao_M) (ρ : ao_H) {y : Int32 × ao_S} (h : gX2_stir n r0 r1 M ρ = some y) : ao_le ρ y.2.2 := (mX2_stir n).1 r0 r1 M ρ y h
set_option maxRecDepth 100000 in
set_option maxHeartbeats 4000000 in
theorem aX2_stir {Γ : ao_C} (d : Nat) (hd : 5 ≤ d) (n : Nat) (r0 : Nat) (r1 : Nat) (M : ao_M) (ρ : ao_H) {y : Int32 × ao_S} (h : gX2_stir n r0 r1 M ρ = some y) : ao_A Γ uX2_stir d (ao_dc ρ y.2.2) (ao_ds ρ y.2.2) [.ref (Γ.2.2.2 + r0), .ref (Γ.2.2.2 + r1)] (M, ρ) (ao_QI y) := by
  refine ao_of (by decide) (ao_cat1 (Nat.le_of_ble_eq_true rfl)) (Nat.le_of_ble_eq_true rfl) ?_
  show ao_W Γ uX2_stir (ao_rm d (ao_dc ρ y.2.2) (ao_ds ρ y.2.2)) (ao_Q Γ (ao_QI y) (ao_dc ρ y.2.2) (ao_ds ρ y.2.2)) (ao_dc ρ y.2.2) (ao_ds ρ y.2.2) 0 [some (.ref (Γ.2.2.2 + r0)), some (.ref (Γ.2.2.2 + r1))] [] (M, ρ)
  exact (wX2_stir d hd _ _ n).1 r0 r1 M ρ y h

abbrev uX2_quit : ao_Mi := (yX2_quit, cX2_quit, 3, (some .int), [])
def fX2_quit : Nat → Nat → Nat → Nat → Int32 →  ao_M → ao_H → Option (Int32 × ao_S)
  | 0, _, _, _, _, _, _ => none
  | n + 1, pc, r0, r1, x2, M, ρ =>
    if pc = 0 then
      if ρ.2.1 r1 = 17 then
      if 0 < (M r1 8) then
        (ρ.1 r1 1).bind fun j3 =>
        (gX7_innermost n r1 M ρ).bind fun p4 =>
        if ρ.2.1 p4.1 = 13 then
        if ρ.2.1 j3 = 11 then
        (gX1_secondAt j3 (p4.2 p4.1 8) p4.2 ρ).bind fun p7 =>
        ao_let p7.1 fun v8 =>
        if ρ.2.1 r0 = 12 then
        (gX2_leaveFrom n r0 r1 ((p7.2 r1 8) - (1 : Int32)) p7.2 ρ).bind fun p10 =>
        fX2_quit n 35 r0 r1 v8 p10.1 p10.2
        else none
        else none
        else none
      else
        some ((0 : Int32), M, ρ)
      else none
    else if pc = 35 then
      if ρ.2.1 r1 = 17 then
      ao_let (ao_u M r1 3 x2) fun M12 =>
      some ((0 : Int32), M12, ρ)
      else none
    else none
def gX2_quit (n : Nat) (r0 : Nat) (r1 : Nat) (M : ao_M) (ρ : ao_H) : Option (Int32 × ao_S) := fX2_quit n 0 r0 r1 0 M ρ
set_option maxRecDepth 100000 in
set_option maxHeartbeats 4000000 in
theorem mX2_quit : ∀ n : Nat, (∀ (r0 : Nat) (r1 : Nat) (M : ao_M) (ρ : ao_H) (y : Int32 × ao_S), fX2_quit n 0 r0 r1 0 M ρ = some y → ao_le ρ y.2.2) ∧ (∀ (r0 : Nat) (r1 : Nat) (x2 : Int32) (M : ao_M) (ρ : ao_H) (y : Int32 × ao_S), fX2_quit n 35 r0 r1 x2 M ρ = some y → ao_le ρ y.2.2) := by
  intro n
  induction n with
  | zero => exact ⟨fun _ _ _ _ _ h => ao_no h, fun _ _ _ _ _ _ h => ao_no h⟩
  | succ n ih =>
    refine ⟨?_, ?_⟩
    · intro r0 r1 M ρ y h
      replace h := ao_ifT h rfl
      obtain ⟨-, h⟩ := ao_some h
      rcases ao_ifC h with h | h
      · obtain ⟨j3, hj3, h⟩ := ao_bind h
        obtain ⟨p4, hp4, h⟩ := ao_bind h
        obtain ⟨-, h⟩ := ao_some h
        obtain ⟨-, h⟩ := ao_some h
        obtain ⟨p7, hp7, h⟩ := ao_bind h
        replace h := ao_letD h rfl
        generalize p7.1 = v8 at h
        obtain ⟨-, h⟩ := ao_some h
        obtain ⟨p10, hp10, h⟩ := ao_bind h
        exact ao_le_tr (me_X2_leaveFrom n r0 r1 ((p7.2 r1 8) - (1 : Int32)) p7.2 ρ hp10) (ih.2 r0 r1 v8 p10.1 p10.2 _ h)
      · cases h
        exact ao_le_rf _
    · intro r0 r1 x2 M ρ y h
      replace h := ao_ifF h (by decide)
      replace h := ao_ifT h rfl
      obtain ⟨-, h⟩ := ao_some h
      replace h := ao_letD h rfl
      generalize (ao_u M r1 3 x2) = M12 at h
      cases h
      exact ao_le_rf _
set_option maxRecDepth 100000 in
set_option maxHeartbeats 4000000 in
theorem wX2_quit {Γ : ao_C} (d : Nat) (hd : 5 ≤ d) (MC MS : Nat) : ∀ n : Nat, (∀ (r0 : Nat) (r1 : Nat) (M : ao_M) (ρ : ao_H) (y : Int32 × ao_S), fX2_quit n 0 r0 r1 0 M ρ = some y → ao_W Γ uX2_quit (ao_rm d MC MS) (ao_Q Γ (ao_QI y) MC MS) (ao_dc ρ y.2.2) (ao_ds ρ y.2.2) 0 [some (.ref (Γ.2.2.2 + r0)), some (.ref (Γ.2.2.2 + r1)), none] [] (M, ρ)) ∧ (∀ (r0 : Nat) (r1 : Nat) (x2 : Int32) (M : ao_M) (ρ : ao_H) (y : Int32 × ao_S), fX2_quit n 35 r0 r1 x2 M ρ = some y → ao_W Γ uX2_quit (ao_rm d MC MS) (ao_Q Γ (ao_QI y) MC MS) (ao_dc ρ y.2.2) (ao_ds ρ y.2.2) 35 [some (.ref (Γ.2.2.2 + r0)), some (.ref (Γ.2.2.2 + r1)), some (.int x2)] [] (M, ρ)) := by
  intro n
  induction n with
  | zero => exact ⟨fun _ _ _ _ _ h => ao_no h, fun _ _ _ _ _ _ h => ao_no h⟩
  | succ n ih =>
    refine ⟨?_, ?_⟩
    · intro r0 r1 M ρ y h
      replace h := ao_ifT h rfl
      refine ao_aload_n 1 dX2_quit_0 rfl rfl ?_
      obtain ⟨hk1, h⟩ := ao_some h
      refine an_getI r1 7 8 (q := (RX7, TX7, 20)) dX2_quit_1 rfl hk1 (Nat.le_of_ble_eq_true rfl) rfl lf_X2_165 ?_
      refine ao_if_gt 9 dX2_quit_4 (by decide) (fun c2 => ?_) (fun c2 => ?_)
      · replace h := ao_ifT h c2
        refine ao_aload_n 1 dX2_quit_9 rfl rfl ?_
        obtain ⟨j3, hj3, h⟩ := ao_bind h
        refine an_getR r1 7 1 (q := (RX7, TX7, 20)) dX2_quit_10 rfl hk1 (Nat.le_of_ble_eq_true rfl) rfl lf_X2_88 hj3 ?_
        refine ao_aload_n 1 dX2_quit_13 rfl rfl ?_
        obtain ⟨p4, hp4, h⟩ := ao_bind h
        refine an_callVr r1 7 (q := (RX7, TX7, 20)) [] (aX7_innermost (d - 1) (by omega) _ r1 M ρ hp4) dX2_quit_14 lc_X2_202 li_X7_innermost ls_X7_innermost rfl hk1 rfl rfl (Nat.le_of_ble_eq_true rfl) (ao_hR (by omega) (by decide)) ?_
        obtain ⟨hk5, h⟩ := ao_some h
        refine an_getI p4.1 3 8 (q := (RX3, TX3, 12)) dX2_quit_17 rfl hk5 (Nat.le_of_ble_eq_true rfl) rfl lf_X2_292 ?_
        obtain ⟨hk6, h⟩ := ao_some h
        obtain ⟨p7, hp7, h⟩ := ao_bind h
        refine an_callVi j3 1 (q := (RX1, TX1, 6)) [.int (p4.2 p4.1 8)] (aX1_secondAt (d - 1) (by omega) j3 (p4.2 p4.1 8) p4.2 ρ hp7) dX2_quit_20 lc_X2_323 li_X1_secondAt ls_X1_secondAt rfl hk6 rfl rfl (Nat.le_of_ble_eq_true rfl) (ao_hR (by omega) (by decide)) ?_
        refine an_topi (fun v8 hv8 => ?_)
        replace h := ao_letD h hv8
        refine ao_istore_n 2 (lo' := [some (.ref (Γ.2.2.2 + r0)), some (.ref (Γ.2.2.2 + r1)), some (.int v8)]) dX2_quit_23 rfl (Nat.le_of_ble_eq_true rfl) rfl ?_
        refine ao_aload_n 0 dX2_quit_24 rfl rfl ?_
        refine ao_aload_n 1 dX2_quit_25 rfl rfl ?_
        refine ao_aload_n 1 dX2_quit_26 rfl rfl ?_
        refine an_getI r1 7 8 (q := (RX7, TX7, 20)) dX2_quit_27 rfl hk1 (Nat.le_of_ble_eq_true rfl) rfl lf_X2_165 ?_
        refine ao_iconst (v := 1) dX2_quit_30 (by decide) ?_
        refine ao_isub dX2_quit_31 ?_
        obtain ⟨hk9, h⟩ := ao_some h
        obtain ⟨p10, hp10, h⟩ := ao_bind h
        refine ba_callVv r0 2 (q := (RX2, TX2, 7)) [.ref (Γ.2.2.2 + r1), .int ((p7.2 r1 8) - (1 : Int32))] (aX2_leaveFrom (d - 1) (by omega) n r0 r1 ((p7.2 r1 8) - (1 : Int32)) p7.2 ρ hp10) dX2_quit_32 lc_X2_358 li_X2_leaveFrom ls_X2_leaveFrom rfl hk9 rfl rfl (Nat.le_of_ble_eq_true rfl) (ao_hR (by omega) (by decide)) (ao_leC (me_X2_leaveFrom n r0 r1 ((p7.2 r1 8) - (1 : Int32)) p7.2 ρ hp10) ((mX2_quit n).2 r0 r1 v8 p10.1 p10.2 _ h)) (ao_leS (me_X2_leaveFrom n r0 r1 ((p7.2 r1 8) - (1 : Int32)) p7.2 ρ hp10) ((mX2_quit n).2 r0 r1 v8 p10.1 p10.2 _ h)) ?_
        exact ih.2 r0 r1 v8 p10.1 p10.2 _ h
      · replace h := ao_ifF h c2
        refine ao_iconst (v := 0) dX2_quit_7 (by decide) ?_
        cases h
        exact ao_ireturn dX2_quit_8 rfl rfl ⟨rfl, rfl⟩
    · intro r0 r1 x2 M ρ y h
      replace h := ao_ifF h (by decide)
      replace h := ao_ifT h rfl
      refine ao_aload_n 1 dX2_quit_35 rfl rfl ?_
      refine ao_iload_n 2 dX2_quit_36 rfl rfl ?_
      obtain ⟨hk11, h⟩ := ao_some h
      refine an_putI r1 7 3 (q := (RX7, TX7, 20)) dX2_quit_37 rfl hk11 (Nat.le_of_ble_eq_true rfl) lf_X2_92 rfl rfl rfl rfl (fun M12 hM12 => ?_)
      replace h := ao_letD h hM12
      refine ao_iconst (v := 0) dX2_quit_40 (by decide) ?_
      cases h
      exact ao_ireturn dX2_quit_41 rfl rfl ⟨rfl, rfl⟩
theorem me_X2_quit (n : Nat) (r0 : Nat) (r1 : Nat) (M : ao_M) (ρ : ao_H) {y : Int32 × ao_S} (h : gX2_quit n r0 r1 M ρ = some y) : ao_le ρ y.2.2 := (mX2_quit n).1 r0 r1 M ρ y h
set_option maxRecDepth 100000 in
set_option maxHeartbeats 4000000 in
theorem aX2_quit {Γ : ao_C} (d : Nat) (hd : 5 ≤ d) (n : Nat) (r0 : Nat) (r1 : Nat) (M : ao_M) (ρ : ao_H) {y : Int32 × ao_S} (h : gX2_quit n r0 r1 M ρ = some y) : ao_A Γ uX2_quit d (ao_dc ρ y.2.2) (ao_ds ρ y.2.2) [.ref (Γ.2.2.2 + r0), .ref (Γ.2.2.2 + r1)] (M, ρ) (ao_QI y) := by
  refine ao_of (by decide) (ao_cat1 (Nat.le_of_ble_eq_true rfl)) (Nat.le_of_ble_eq_true rfl) ?_
  show ao_W Γ uX2_quit (ao_rm d (ao_dc ρ y.2.2) (ao_ds ρ y.2.2)) (ao_Q Γ (ao_QI y) (ao_dc ρ y.2.2) (ao_ds ρ y.2.2)) (ao_dc ρ y.2.2) (ao_ds ρ y.2.2) 0 [some (.ref (Γ.2.2.2 + r0)), some (.ref (Γ.2.2.2 + r1)), none] [] (M, ρ)
  exact (wX2_quit d hd _ _ n).1 r0 r1 M ρ y h

abbrev uX2_fail : ao_Mi := (yX2_fail, cX2_fail, 5, (some .int), [])
def fX2_fail : Nat → Nat → Nat → Nat → Int32 → Int32 → Int32 →  ao_M → ao_H → Option (Int32 × ao_S)
  | 0, _, _, _, _, _, _, _, _ => none
  | n + 1, pc, r0, r1, x2, x3, x4, M, ρ =>
    if pc = 0 then
      if ρ.2.1 r1 = 17 then
      ao_let ((M r1 11) - (1 : Int32)) fun v2 =>
      if 0 ≤ v2 then
        (gX7_tryAtOf r1 v2 M ρ).bind fun p4 =>
        ao_let p4.1 fun v5 =>
        (gX7_tryDepthOf r1 v2 p4.2 ρ).bind fun p6 =>
        if ρ.2.1 r0 = 12 then
        (gX2_leaveFrom n r0 r1 p6.1 p6.2 ρ).bind fun p8 =>
        fX2_fail n 46 r0 r1 x2 v2 v5 p8.1 p8.2
        else none
      else
        if ρ.2.1 r0 = 12 then
        (gX2_leaveFrom n r0 r1 (0 : Int32) M ρ).bind fun p10 =>
        fX2_fail n 17 r0 r1 x2 v2 0 p10.1 p10.2
        else none
      else none
    else if pc = 17 then
      if ρ.2.1 r1 = 17 then
      ao_let (ao_u M r1 2 (5 : Int32)) fun M12 =>
      ao_let (ao_u M12 r1 19 x2) fun M13 =>
      some ((5 : Int32), M13, ρ)
      else none
    else if pc = 46 then
      if ρ.2.1 r1 = 17 then
      ao_let (ao_u M r1 11 x3) fun M15 =>
      (ρ.1 r1 1).bind fun j16 =>
      if ρ.2.1 j16 = 11 then
      (gX1_secondAt j16 x4 M15 ρ).bind fun p18 =>
      (gX2_setRegister r1 p18.1 x2 p18.2 ρ).bind fun p19 =>
      (gX1_firstAt j16 x4 p19 ρ).bind fun p20 =>
      ao_let (ao_u p20.2 r1 3 p20.1) fun M21 =>
      some ((-1 : Int32), M21, ρ)
      else none
      else none
    else none
def gX2_fail (n : Nat) (r0 : Nat) (r1 : Nat) (x2 : Int32) (M : ao_M) (ρ : ao_H) : Option (Int32 × ao_S) := fX2_fail n 0 r0 r1 x2 0 0 M ρ
set_option maxRecDepth 100000 in
set_option maxHeartbeats 4000000 in
theorem mX2_fail : ∀ n : Nat, (∀ (r0 : Nat) (r1 : Nat) (x2 : Int32) (M : ao_M) (ρ : ao_H) (y : Int32 × ao_S), fX2_fail n 0 r0 r1 x2 0 0 M ρ = some y → ao_le ρ y.2.2) ∧ (∀ (r0 : Nat) (r1 : Nat) (x2 : Int32) (x3 : Int32) (M : ao_M) (ρ : ao_H) (y : Int32 × ao_S), fX2_fail n 17 r0 r1 x2 x3 0 M ρ = some y → ao_le ρ y.2.2) ∧ (∀ (r0 : Nat) (r1 : Nat) (x2 : Int32) (x3 : Int32) (x4 : Int32) (M : ao_M) (ρ : ao_H) (y : Int32 × ao_S), fX2_fail n 46 r0 r1 x2 x3 x4 M ρ = some y → ao_le ρ y.2.2) := by
  intro n
  induction n with
  | zero => exact ⟨fun _ _ _ _ _ _ h => ao_no h, fun _ _ _ _ _ _ _ h => ao_no h, fun _ _ _ _ _ _ _ _ h => ao_no h⟩
  | succ n ih =>
    refine ⟨?_, ?_, ?_⟩
    · intro r0 r1 x2 M ρ y h
      replace h := ao_ifT h rfl
      obtain ⟨-, h⟩ := ao_some h
      replace h := ao_letD h rfl
      generalize ((M r1 11) - (1 : Int32)) = v2 at h
      rcases ao_ifC h with h | h
      · obtain ⟨p4, hp4, h⟩ := ao_bind h
        replace h := ao_letD h rfl
        generalize p4.1 = v5 at h
        obtain ⟨p6, hp6, h⟩ := ao_bind h
        obtain ⟨-, h⟩ := ao_some h
        obtain ⟨p8, hp8, h⟩ := ao_bind h
        exact ao_le_tr (me_X2_leaveFrom n r0 r1 p6.1 p6.2 ρ hp8) (ih.2.2 r0 r1 x2 v2 v5 p8.1 p8.2 _ h)
      · obtain ⟨-, h⟩ := ao_some h
        obtain ⟨p10, hp10, h⟩ := ao_bind h
        exact ao_le_tr (me_X2_leaveFrom n r0 r1 (0 : Int32) M ρ hp10) (ih.2.1 r0 r1 x2 v2 p10.1 p10.2 _ h)
    · intro r0 r1 x2 x3 M ρ y h
      replace h := ao_ifF h (by decide)
      replace h := ao_ifT h rfl
      obtain ⟨-, h⟩ := ao_some h
      replace h := ao_letD h rfl
      generalize (ao_u M r1 2 (5 : Int32)) = M12 at h
      replace h := ao_letD h rfl
      generalize (ao_u M12 r1 19 x2) = M13 at h
      cases h
      exact ao_le_rf _
    · intro r0 r1 x2 x3 x4 M ρ y h
      replace h := ao_ifF h (by decide)
      replace h := ao_ifF h (by decide)
      replace h := ao_ifT h rfl
      obtain ⟨-, h⟩ := ao_some h
      replace h := ao_letD h rfl
      generalize (ao_u M r1 11 x3) = M15 at h
      obtain ⟨j16, hj16, h⟩ := ao_bind h
      obtain ⟨-, h⟩ := ao_some h
      obtain ⟨p18, hp18, h⟩ := ao_bind h
      obtain ⟨p19, hp19, h⟩ := ao_bind h
      obtain ⟨p20, hp20, h⟩ := ao_bind h
      replace h := ao_letD h rfl
      generalize (ao_u p20.2 r1 3 p20.1) = M21 at h
      cases h
      exact ao_le_rf _
set_option maxRecDepth 100000 in
set_option maxHeartbeats 4000000 in
theorem wX2_fail {Γ : ao_C} (d : Nat) (hd : 5 ≤ d) (MC MS : Nat) : ∀ n : Nat, (∀ (r0 : Nat) (r1 : Nat) (x2 : Int32) (M : ao_M) (ρ : ao_H) (y : Int32 × ao_S), fX2_fail n 0 r0 r1 x2 0 0 M ρ = some y → ao_W Γ uX2_fail (ao_rm d MC MS) (ao_Q Γ (ao_QI y) MC MS) (ao_dc ρ y.2.2) (ao_ds ρ y.2.2) 0 [some (.ref (Γ.2.2.2 + r0)), some (.ref (Γ.2.2.2 + r1)), some (.int x2), none, none] [] (M, ρ)) ∧ (∀ (r0 : Nat) (r1 : Nat) (x2 : Int32) (x3 : Int32) (M : ao_M) (ρ : ao_H) (y : Int32 × ao_S), fX2_fail n 17 r0 r1 x2 x3 0 M ρ = some y → ao_W Γ uX2_fail (ao_rm d MC MS) (ao_Q Γ (ao_QI y) MC MS) (ao_dc ρ y.2.2) (ao_ds ρ y.2.2) 17 [some (.ref (Γ.2.2.2 + r0)), some (.ref (Γ.2.2.2 + r1)), some (.int x2), some (.int x3), none] [] (M, ρ)) ∧ (∀ (r0 : Nat) (r1 : Nat) (x2 : Int32) (x3 : Int32) (x4 : Int32) (M : ao_M) (ρ : ao_H) (y : Int32 × ao_S), fX2_fail n 46 r0 r1 x2 x3 x4 M ρ = some y → ao_W Γ uX2_fail (ao_rm d MC MS) (ao_Q Γ (ao_QI y) MC MS) (ao_dc ρ y.2.2) (ao_ds ρ y.2.2) 46 [some (.ref (Γ.2.2.2 + r0)), some (.ref (Γ.2.2.2 + r1)), some (.int x2), some (.int x3), some (.int x4)] [] (M, ρ)) := by
  intro n
  induction n with
  | zero => exact ⟨fun _ _ _ _ _ _ h => ao_no h, fun _ _ _ _ _ _ _ h => ao_no h, fun _ _ _ _ _ _ _ _ h => ao_no h⟩
  | succ n ih =>
    refine ⟨?_, ?_, ?_⟩
    · intro r0 r1 x2 M ρ y h
      replace h := ao_ifT h rfl
      refine ao_aload_n 1 dX2_fail_0 rfl rfl ?_
      obtain ⟨hk1, h⟩ := ao_some h
      refine an_getI r1 7 11 (q := (RX7, TX7, 20)) dX2_fail_1 rfl hk1 (Nat.le_of_ble_eq_true rfl) rfl lf_X2_361 ?_
      refine ao_iconst (v := 1) dX2_fail_4 (by decide) ?_
      refine ao_isub dX2_fail_5 ?_
      refine an_topi (fun v2 hv2 => ?_)
      replace h := ao_letD h hv2
      refine ao_istore_n 3 (lo' := [some (.ref (Γ.2.2.2 + r0)), some (.ref (Γ.2.2.2 + r1)), some (.int x2), some (.int v2), none]) dX2_fail_6 rfl (Nat.le_of_ble_eq_true rfl) rfl ?_
      refine ao_iload_n 3 dX2_fail_7 rfl rfl ?_
      refine ao_if_ge 29 dX2_fail_8 (by decide) (fun c3 => ?_) (fun c3 => ?_)
      · replace h := ao_ifT h c3
        refine ao_aload_n 1 dX2_fail_29 rfl rfl ?_
        refine ao_iload_n 3 dX2_fail_30 rfl rfl ?_
        obtain ⟨p4, hp4, h⟩ := ao_bind h
        refine an_callVi r1 7 (q := (RX7, TX7, 20)) [.int v2] (aX7_tryAtOf (d - 1) (by omega) r1 v2 M ρ hp4) dX2_fail_31 lc_X2_367 li_X7_tryAtOf ls_X7_tryAtOf rfl hk1 rfl rfl (Nat.le_of_ble_eq_true rfl) (ao_hR (by omega) (by decide)) ?_
        refine an_topi (fun v5 hv5 => ?_)
        replace h := ao_letD h hv5
        refine ao_istore 4 (lo' := [some (.ref (Γ.2.2.2 + r0)), some (.ref (Γ.2.2.2 + r1)), some (.int x2), some (.int v2), some (.int v5)]) dX2_fail_34 (Nat.le_of_ble_eq_true rfl) rfl ?_
        refine ao_aload_n 0 dX2_fail_36 rfl rfl ?_
        refine ao_aload_n 1 dX2_fail_37 rfl rfl ?_
        refine ao_aload_n 1 dX2_fail_38 rfl rfl ?_
        refine ao_iload_n 3 dX2_fail_39 rfl rfl ?_
        obtain ⟨p6, hp6, h⟩ := ao_bind h
        refine an_callVi r1 7 (q := (RX7, TX7, 20)) [.int v2] (aX7_tryDepthOf (d - 1) (by omega) r1 v2 p4.2 ρ hp6) dX2_fail_40 lc_X2_370 li_X7_tryDepthOf ls_X7_tryDepthOf rfl hk1 rfl rfl (Nat.le_of_ble_eq_true rfl) (ao_hR (by omega) (by decide)) ?_
        obtain ⟨hk7, h⟩ := ao_some h
        obtain ⟨p8, hp8, h⟩ := ao_bind h
        refine ba_callVv r0 2 (q := (RX2, TX2, 7)) [.ref (Γ.2.2.2 + r1), .int p6.1] (aX2_leaveFrom (d - 1) (by omega) n r0 r1 p6.1 p6.2 ρ hp8) dX2_fail_43 lc_X2_358 li_X2_leaveFrom ls_X2_leaveFrom rfl hk7 rfl rfl (Nat.le_of_ble_eq_true rfl) (ao_hR (by omega) (by decide)) (ao_leC (me_X2_leaveFrom n r0 r1 p6.1 p6.2 ρ hp8) ((mX2_fail n).2.2 r0 r1 x2 v2 v5 p8.1 p8.2 _ h)) (ao_leS (me_X2_leaveFrom n r0 r1 p6.1 p6.2 ρ hp8) ((mX2_fail n).2.2 r0 r1 x2 v2 v5 p8.1 p8.2 _ h)) ?_
        exact ih.2.2 r0 r1 x2 v2 v5 p8.1 p8.2 _ h
      · replace h := ao_ifF h c3
        refine ao_aload_n 0 dX2_fail_11 rfl rfl ?_
        refine ao_aload_n 1 dX2_fail_12 rfl rfl ?_
        refine ao_iconst (v := 0) dX2_fail_13 (by decide) ?_
        obtain ⟨hk9, h⟩ := ao_some h
        obtain ⟨p10, hp10, h⟩ := ao_bind h
        refine ba_callVv r0 2 (q := (RX2, TX2, 7)) [.ref (Γ.2.2.2 + r1), .int (0 : Int32)] (aX2_leaveFrom (d - 1) (by omega) n r0 r1 (0 : Int32) M ρ hp10) dX2_fail_14 lc_X2_358 li_X2_leaveFrom ls_X2_leaveFrom rfl hk9 rfl rfl (Nat.le_of_ble_eq_true rfl) (ao_hR (by omega) (by decide)) (ao_leC (me_X2_leaveFrom n r0 r1 (0 : Int32) M ρ hp10) ((mX2_fail n).2.1 r0 r1 x2 v2 p10.1 p10.2 _ h)) (ao_leS (me_X2_leaveFrom n r0 r1 (0 : Int32) M ρ hp10) ((mX2_fail n).2.1 r0 r1 x2 v2 p10.1 p10.2 _ h)) ?_
        exact ih.2.1 r0 r1 x2 v2 p10.1 p10.2 _ h
    · intro r0 r1 x2 x3 M ρ y h
      replace h := ao_ifF h (by decide)
      replace h := ao_ifT h rfl
      refine ao_aload_n 1 dX2_fail_17 rfl rfl ?_
      refine ao_iconst (v := 5) dX2_fail_18 (by decide) ?_
      obtain ⟨hk11, h⟩ := ao_some h
      refine an_putI r1 7 2 (q := (RX7, TX7, 20)) dX2_fail_19 rfl hk11 (Nat.le_of_ble_eq_true rfl) lf_X2_55 rfl rfl rfl rfl (fun M12 hM12 => ?_)
      replace h := ao_letD h hM12
      refine ao_aload_n 1 dX2_fail_22 rfl rfl ?_
      refine ao_iload_n 2 dX2_fail_23 rfl rfl ?_
      refine an_putI r1 7 19 (q := (RX7, TX7, 20)) dX2_fail_24 rfl hk11 (Nat.le_of_ble_eq_true rfl) lf_X2_364 rfl rfl rfl rfl (fun M13 hM13 => ?_)
      replace h := ao_letD h hM13
      refine ao_iconst (v := 5) dX2_fail_27 (by decide) ?_
      cases h
      exact ao_ireturn dX2_fail_28 rfl rfl ⟨rfl, rfl⟩
    · intro r0 r1 x2 x3 x4 M ρ y h
      replace h := ao_ifF h (by decide)
      replace h := ao_ifF h (by decide)
      replace h := ao_ifT h rfl
      refine ao_aload_n 1 dX2_fail_46 rfl rfl ?_
      refine ao_iload_n 3 dX2_fail_47 rfl rfl ?_
      obtain ⟨hk14, h⟩ := ao_some h
      refine an_putI r1 7 11 (q := (RX7, TX7, 20)) dX2_fail_48 rfl hk14 (Nat.le_of_ble_eq_true rfl) lf_X2_361 rfl rfl rfl rfl (fun M15 hM15 => ?_)
      replace h := ao_letD h hM15
      refine ao_aload_n 1 dX2_fail_51 rfl rfl ?_
      refine ao_aload_n 1 dX2_fail_52 rfl rfl ?_
      obtain ⟨j16, hj16, h⟩ := ao_bind h
      refine an_getR r1 7 1 (q := (RX7, TX7, 20)) dX2_fail_53 rfl hk14 (Nat.le_of_ble_eq_true rfl) rfl lf_X2_88 hj16 ?_
      refine ao_iload 4 dX2_fail_56 rfl ?_
      obtain ⟨hk17, h⟩ := ao_some h
      obtain ⟨p18, hp18, h⟩ := ao_bind h
      refine an_callVi j16 1 (q := (RX1, TX1, 6)) [.int x4] (aX1_secondAt (d - 1) (by omega) j16 x4 M15 ρ hp18) dX2_fail_58 lc_X2_323 li_X1_secondAt ls_X1_secondAt rfl hk17 rfl rfl (Nat.le_of_ble_eq_true rfl) (ao_hR (by omega) (by decide)) ?_
      refine ao_iload_n 2 dX2_fail_61 rfl rfl ?_
      obtain ⟨p19, hp19, h⟩ := ao_bind h
      refine an_callSv [.ref (Γ.2.2.2 + r1), .int p18.1, .int x2] (aX2_setRegister (d - 1) (by omega) r1 p18.1 x2 p18.2 ρ hp19) dX2_fail_62 lc_X2_158 lt_X2_setRegister rfl rfl (Nat.le_of_ble_eq_true rfl) (ao_hR (by omega) (by decide)) ?_
      refine ao_aload_n 1 dX2_fail_65 rfl rfl ?_
      refine ao_aload_n 1 dX2_fail_66 rfl rfl ?_
      refine an_getR r1 7 1 (q := (RX7, TX7, 20)) dX2_fail_67 rfl hk14 (Nat.le_of_ble_eq_true rfl) rfl lf_X2_88 hj16 ?_
      refine ao_iload 4 dX2_fail_70 rfl ?_
      obtain ⟨p20, hp20, h⟩ := ao_bind h
      refine an_callVi j16 1 (q := (RX1, TX1, 6)) [.int x4] (aX1_firstAt (d - 1) (by omega) j16 x4 p19 ρ hp20) dX2_fail_72 lc_X2_352 li_X1_firstAt ls_X1_firstAt rfl hk17 rfl rfl (Nat.le_of_ble_eq_true rfl) (ao_hR (by omega) (by decide)) ?_
      refine an_putI r1 7 3 (q := (RX7, TX7, 20)) dX2_fail_75 rfl hk14 (Nat.le_of_ble_eq_true rfl) lf_X2_92 rfl rfl rfl rfl (fun M21 hM21 => ?_)
      replace h := ao_letD h hM21
      refine ao_iconst (v := (-1)) dX2_fail_78 (by decide) ?_
      cases h
      exact ao_ireturn dX2_fail_79 rfl rfl ⟨rfl, rfl⟩
theorem me_X2_fail (n : Nat) (r0 : Nat) (r1 : Nat) (x2 : Int32) (M : ao_M) (ρ : ao_H) {y : Int32 × ao_S} (h : gX2_fail n r0 r1 x2 M ρ = some y) : ao_le ρ y.2.2 := (mX2_fail n).1 r0 r1 x2 M ρ y h
set_option maxRecDepth 100000 in
set_option maxHeartbeats 4000000 in
theorem aX2_fail {Γ : ao_C} (d : Nat) (hd : 5 ≤ d) (n : Nat) (r0 : Nat) (r1 : Nat) (x2 : Int32) (M : ao_M) (ρ : ao_H) {y : Int32 × ao_S} (h : gX2_fail n r0 r1 x2 M ρ = some y) : ao_A Γ uX2_fail d (ao_dc ρ y.2.2) (ao_ds ρ y.2.2) [.ref (Γ.2.2.2 + r0), .ref (Γ.2.2.2 + r1), .int x2] (M, ρ) (ao_QI y) := by
  refine ao_of (by decide) (ao_cat1 (Nat.le_of_ble_eq_true rfl)) (Nat.le_of_ble_eq_true rfl) ?_
  show ao_W Γ uX2_fail (ao_rm d (ao_dc ρ y.2.2) (ao_ds ρ y.2.2)) (ao_Q Γ (ao_QI y) (ao_dc ρ y.2.2) (ao_ds ρ y.2.2)) (ao_dc ρ y.2.2) (ao_ds ρ y.2.2) 0 [some (.ref (Γ.2.2.2 + r0)), some (.ref (Γ.2.2.2 + r1)), some (.int x2), none, none] [] (M, ρ)
  exact (wX2_fail d hd _ _ n).1 r0 r1 x2 M ρ y h

abbrev uX4_assignment : ao_Mi := (yX4_assignment, cX4_assignment, 4, (some .boolean), [])
def gX4_assignment (n : Nat) (r0 : Nat) (x1 : Int32) (x2 : Int32) (M : ao_M) (ρ : ao_H) : Option (Int32 × ao_M) :=
  if ρ.2.1 r0 = 14 then
  (ρ.1 r0 0).bind fun j2 =>
  if ρ.2.1 j2 = 19 then
  ao_let (M j2 10) fun v4 =>
  (gX9_advance n j2 M ρ).bind fun p5 =>
  (gX4_expect n r0 (22 : Int32) p5 ρ).bind fun p6 =>
  if p6.1 = 0 then
    some ((0 : Int32), p6.2)
  else
    (gX4_expression n r0 x2 p6.2 ρ).bind fun p8 =>
    if p8.1 = 0 then
      some ((0 : Int32), p8.2)
    else
      (ρ.1 r0 1).bind fun j10 =>
      if ρ.2.1 j10 = 11 then
      (gX1_add j10 x1 v4 p8.2 ρ).bind fun p12 =>
      (gX4_expect n r0 (21 : Int32) p12.2 ρ).bind fun p13 =>
      if p13.1 = 0 ∨ p13.1 = 1 then
      some (p13.1, p13.2)
      else none
      else none
  else none
  else none
set_option maxRecDepth 100000 in
set_option maxHeartbeats 4000000 in
theorem aX4_assignment {Γ : ao_C} (d : Nat) (hd : 68 ≤ d) (n : Nat) (r0 : Nat) (x1 : Int32) (x2 : Int32) (M : ao_M) (ρ : ao_H) {y : Int32 × ao_M} (h : gX4_assignment n r0 x1 x2 M ρ = some y) : ao_A Γ uX4_assignment d 0 0 [.ref (Γ.2.2.2 + r0), .int x1, .int x2] (M, ρ) (ao_PI ρ y) := by
  refine ao_of (by decide) (ao_cat1 (Nat.le_of_ble_eq_true rfl)) (Nat.le_of_ble_eq_true rfl) ?_
  show ao_W Γ uX4_assignment (ao_rm d 0 0) (ao_Q Γ (ao_PI ρ y) 0 0) 0 0 0 [some (.ref (Γ.2.2.2 + r0)), some (.int x1), some (.int x2), none] [] (M, ρ)
  unfold gX4_assignment at h
  refine ao_aload_n 0 dX4_assignment_0 rfl rfl ?_
  obtain ⟨hk1, h⟩ := ao_some h
  obtain ⟨j2, hj2, h⟩ := ao_bind h
  refine an_getR r0 4 0 (q := (RX4, TX4, 3)) dX4_assignment_1 rfl hk1 (Nat.le_of_ble_eq_true rfl) rfl lf_X4_12 hj2 ?_
  obtain ⟨hk3, h⟩ := ao_some h
  refine an_getI j2 9 10 (q := (RX9, TX9, 11)) dX4_assignment_4 rfl hk3 (Nat.le_of_ble_eq_true rfl) rfl lf_X4_90 ?_
  refine an_topi (fun v4 hv4 => ?_)
  replace h := ao_letD h hv4
  refine ao_istore_n 3 (lo' := [some (.ref (Γ.2.2.2 + r0)), some (.int x1), some (.int x2), some (.int v4)]) dX4_assignment_7 rfl (Nat.le_of_ble_eq_true rfl) rfl ?_
  refine ao_aload_n 0 dX4_assignment_8 rfl rfl ?_
  refine an_getR r0 4 0 (q := (RX4, TX4, 3)) dX4_assignment_9 rfl hk1 (Nat.le_of_ble_eq_true rfl) rfl lf_X4_12 hj2 ?_
  obtain ⟨p5, hp5, h⟩ := ao_bind h
  refine an_callVv j2 9 (q := (RX9, TX9, 11)) [] (aX9_advance (d - 1) (by omega) _ j2 M ρ hp5) dX4_assignment_12 lc_X4_52 li_X9_advance ls_X9_advance rfl hk3 rfl rfl (Nat.le_of_ble_eq_true rfl) (ao_hR (by omega) (by decide)) ?_
  refine ao_aload_n 0 dX4_assignment_15 rfl rfl ?_
  refine ao_bipush (v := 22) dX4_assignment_16 (by decide) ?_
  obtain ⟨p6, hp6, h⟩ := ao_bind h
  refine an_callVi r0 4 (q := (RX4, TX4, 3)) [.int (22 : Int32)] (aX4_expect (d - 1) (by omega) _ r0 (22 : Int32) p5 ρ hp6) dX4_assignment_18 lc_X4_55 li_X4_expect ls_X4_expect rfl hk1 rfl rfl (Nat.le_of_ble_eq_true rfl) (ao_hR (by omega) (by decide)) ?_
  refine ao_if_eq 32 dX4_assignment_21 (by decide) (fun c7 => ?_) (fun c7 => ?_)
  · replace h := ao_ifT h c7
    refine ao_iconst (v := 0) dX4_assignment_32 (by decide) ?_
    cases h
    exact ao_ireturn dX4_assignment_33 rfl rfl ⟨rfl, rfl⟩
  · replace h := ao_ifF h c7
    refine ao_aload_n 0 dX4_assignment_24 rfl rfl ?_
    refine ao_iload_n 2 dX4_assignment_25 rfl rfl ?_
    obtain ⟨p8, hp8, h⟩ := ao_bind h
    refine an_callVi r0 4 (q := (RX4, TX4, 3)) [.int x2] (aX4_expression (d - 1) (by omega) _ r0 x2 p6.2 ρ hp8) dX4_assignment_26 lc_X4_93 li_X4_expression ls_X4_expression rfl hk1 rfl rfl (Nat.le_of_ble_eq_true rfl) (ao_hR (by omega) (by decide)) ?_
    refine ao_if_ne 34 dX4_assignment_29 (by decide) (fun c9 => ?_) (fun c9 => ?_)
    · replace h := ao_ifF h c9
      refine ao_aload_n 0 dX4_assignment_34 rfl rfl ?_
      obtain ⟨j10, hj10, h⟩ := ao_bind h
      refine an_getR r0 4 1 (q := (RX4, TX4, 3)) dX4_assignment_35 rfl hk1 (Nat.le_of_ble_eq_true rfl) rfl lf_X4_23 hj10 ?_
      refine ao_iload_n 1 dX4_assignment_38 rfl rfl ?_
      refine ao_iload_n 3 dX4_assignment_39 rfl rfl ?_
      obtain ⟨hk11, h⟩ := ao_some h
      obtain ⟨p12, hp12, h⟩ := ao_bind h
      refine an_callVi j10 1 (q := (RX1, TX1, 6)) [.int x1, .int v4] (aX1_add (d - 1) (by omega) j10 x1 v4 p8.2 ρ hp12) dX4_assignment_40 lc_X4_96 li_X1_add ls_X1_add rfl hk11 rfl rfl (Nat.le_of_ble_eq_true rfl) (ao_hR (by omega) (by decide)) ?_
      refine ao_pop dX4_assignment_43 rfl ?_
      refine ao_aload_n 0 dX4_assignment_44 rfl rfl ?_
      refine ao_bipush (v := 21) dX4_assignment_45 (by decide) ?_
      obtain ⟨p13, hp13, h⟩ := ao_bind h
      refine an_callVi r0 4 (q := (RX4, TX4, 3)) [.int (21 : Int32)] (aX4_expect (d - 1) (by omega) _ r0 (21 : Int32) p12.2 ρ hp13) dX4_assignment_47 lc_X4_55 li_X4_expect ls_X4_expect rfl hk1 rfl rfl (Nat.le_of_ble_eq_true rfl) (ao_hR (by omega) (by decide)) ?_
      obtain ⟨hz14, h⟩ := ao_some h
      cases h
      exact ao_ireturn dX4_assignment_50 rfl (ao_nb hz14) ⟨rfl, rfl⟩
    · replace h := ao_ifT h c9
      refine ao_iconst (v := 0) dX4_assignment_32 (by decide) ?_
      cases h
      exact ao_ireturn dX4_assignment_33 rfl rfl ⟨rfl, rfl⟩
