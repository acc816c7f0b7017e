abbrev uX9_read : ao_Mi := (yX9_read, cX9_read, 4, none, [])
def fX9_read : Nat → Nat → Nat → Nat → Int32 → Int32 →  ao_M → ao_H → Option (ao_S)
  | 0, _, _, _, _, _, _, _ => none
  | n + 1, pc, r0, r1, x2, x3, M, ρ =>
    if pc = 0 then
      if ρ.2.1 r0 = 19 then
      fX9_read n 5 r0 r1 x2 0 M (ao_r ρ r0 0 (some r1))
      else none
    else if pc = 5 then
      if ρ.2.1 r0 = 19 then
      ao_let (ao_u M r0 1 x2) fun M3 =>
      ao_let (ao_u M3 r0 2 (0 : Int32)) fun M4 =>
      ao_let (ao_u M4 r0 8 (1 : Int32)) fun M5 =>
      ao_let (ao_u M5 r0 6 (0 : Int32)) fun M6 =>
      fX9_read n 27 r0 r1 x2 (0 : Int32) M6 ρ
      else none
    else if pc = 27 then
      if (1001 : Int32) ≤ x3 then
        fX9_read n 88 r0 r1 x2 x3 M ρ
      else
        if ρ.2.1 r0 = 19 then
        if (M r0 8) = 0 then
          fX9_read n 88 r0 r1 x2 x3 M ρ
        else
          (gX9_scan n r0 M ρ).bind fun p10 =>
          (ρ.1 r0 3).bind fun j11 =>
          if ρ.2.1 j11 = 0 then
          if ¬ (x3 < 0 ∨ ρ.2.2.1 j11 ≤ x3.toNatClampNeg) then
          ao_let (ao_u p10 j11 x3.toNatClampNeg (p10 r0 8)) fun M14 =>
          (ρ.1 r0 4).bind fun j15 =>
          if ρ.2.1 j15 = 0 then
          if ¬ (x3 < 0 ∨ ρ.2.2.1 j15 ≤ x3.toNatClampNeg) then
          ao_let (ao_u M14 j15 x3.toNatClampNeg (M14 r0 9)) fun M18 =>
          (ρ.1 r0 5).bind fun j19 =>
          if ρ.2.1 j19 = 0 then
          if ¬ (x3 < 0 ∨ ρ.2.2.1 j19 ≤ x3.toNatClampNeg) then
          ao_let (ao_u M18 j19 x3.toNatClampNeg (M18 r0 10)) fun M22 =>
          ao_let (ao_u M22 r0 6 (x3 + (1 : Int32))) fun M23 =>
          ao_let (x3 + (1 : Int32)) fun v24 =>
          fX9_read n 27 r0 r1 x2 v24 M23 ρ
          else none
          else none
          else none
          else none
          else none
          else none
        else none
    else if pc = 88 then
      if ρ.2.1 r0 = 19 then
      ao_let (ao_u M r0 7 (-1 : Int32)) fun M26 =>
      (gX9_advance n r0 M26 ρ).bind fun p27 =>
      some (p27, ρ)
      else none
    else none
def gX9_read (n : Nat) (r0 : Nat) (r1 : Nat) (x2 : Int32) (M : ao_M) (ρ : ao_H) : Option (ao_S) := fX9_read n 0 r0 r1 x2 0 M ρ
set_option maxRecDepth 100000 in
set_option maxHeartbeats 4000000 in
theorem mX9_read : ∀ n : Nat, (∀ (r0 : Nat) (r1 : Nat) (x2 : Int32) (M : ao_M) (ρ : ao_H) (y : ao_S), fX9_read n 0 r0 r1 x2 0 M ρ = some y → ao_le ρ y.2) ∧ (∀ (r0 : Nat) (r1 : Nat) (x2 : Int32) (M : ao_M) (ρ : ao_H) (y : ao_S), fX9_read n 5 r0 r1 x2 0 M ρ = some y → ao_le ρ y.2) ∧ (∀ (r0 : Nat) (r1 : Nat) (x2 : Int32) (x3 : Int32) (M : ao_M) (ρ : ao_H) (y : ao_S), fX9_read n 27 r0 r1 x2 x3 M ρ = some y → ao_le ρ y.2) ∧ (∀ (r0 : Nat) (r1 : Nat) (x2 : Int32) (x3 : Int32) (M : ao_M) (ρ : ao_H) (y : ao_S), fX9_read n 88 r0 r1 x2 x3 M ρ = some y → ao_le ρ y.2) := by
  intro n
  induction n with
  | zero => exact ⟨fun _ _ _ _ _ _ h => ao_no h, fun _ _ _ _ _ _ h => ao_no h, fun _ _ _ _ _ _ _ h => ao_no h, fun _ _ _ _ _ _ _ h => ao_no h⟩
  | succ n ih =>
    refine ⟨?_, ?_, ?_, ?_⟩
    · intro r0 r1 x2 M ρ y h
      replace h := ao_ifT h rfl
      obtain ⟨-, h⟩ := ao_some h
      exact ao_le_tr (ao_le_r _ _ _ _) (ih.2.1 r0 r1 x2 M (ao_r ρ r0 0 (some r1)) _ h)
    · intro r0 r1 x2 M ρ y h
      replace h := ao_ifF h (by decide)
      replace h := ao_ifT h rfl
      obtain ⟨-, h⟩ := ao_some h
      replace h := ao_letD h rfl
      generalize (ao_u M r0 1 x2) = M3 at h
      replace h := ao_letD h rfl
      generalize (ao_u M3 r0 2 (0 : Int32)) = M4 at h
      replace h := ao_letD h rfl
      generalize (ao_u M4 r0 8 (1 : Int32)) = M5 at h
      replace h := ao_letD h rfl
      generalize (ao_u M5 r0 6 (0 : Int32)) = M6 at h
      exact ih.2.2.1 r0 r1 x2 (0 : Int32) M6 ρ _ h
    · intro r0 r1 x2 x3 M ρ y h
      replace h := ao_ifF h (by decide)
      replace h := ao_ifF h (by decide)
      replace h := ao_ifT h rfl
      rcases ao_ifC h with h | h
      · exact ih.2.2.2 r0 r1 x2 x3 M ρ _ h
      · obtain ⟨-, h⟩ := ao_some h
        rcases ao_ifC h with h | h
        · exact ih.2.2.2 r0 r1 x2 x3 M ρ _ h
        · obtain ⟨p10, hp10, h⟩ := ao_bind h
          obtain ⟨j11, hj11, h⟩ := ao_bind h
          obtain ⟨-, h⟩ := ao_some h
          obtain ⟨-, h⟩ := ao_some h
          replace h := ao_letD h rfl
          generalize (ao_u p10 j11 x3.toNatClampNeg (p10 r0 8)) = M14 at h
          obtain ⟨j15, hj15, h⟩ := ao_bind h
          obtain ⟨-, h⟩ := ao_some h
          obtain ⟨-, h⟩ := ao_some h
          replace h := ao_letD h rfl
          generalize (ao_u M14 j15 x3.toNatClampNeg (M14 r0 9)) = M18 at h
          obtain ⟨j19, hj19, h⟩ := ao_bind h
          obtain ⟨-, h⟩ := ao_some h
          obtain ⟨-, h⟩ := ao_some h
          replace h := ao_letD h rfl
          generalize (ao_u M18 j19 x3.toNatClampNeg (M18 r0 10)) = M22 at h
          replace h := ao_letD h rfl
          generalize (ao_u M22 r0 6 (x3 + (1 : Int32))) = M23 at h
          replace h := ao_letD h rfl
          generalize (x3 + (1 : Int32)) = v24 at h
          exact ih.2.2.1 r0 r1 x2 v24 M23 ρ _ h
    · intro r0 r1 x2 x3 M ρ y h
      replace h := ao_ifF h (by decide)
      replace h := ao_ifF h (by decide)
      replace h := ao_ifF h (by decide)
      replace h := ao_ifT h rfl
      obtain ⟨-, h⟩ := ao_some h
      replace h := ao_letD h rfl
      generalize (ao_u M r0 7 (-1 : Int32)) = M26 at h
      obtain ⟨p27, hp27, h⟩ := ao_bind h
      cases h
      exact ao_le_rf _
set_option maxRecDepth 100000 in
set_option maxHeartbeats 4000000 in
theorem wX9_read {Γ : ao_C} (d : Nat) (hd : 8 ≤ d) (MC MS : Nat) : ∀ n : Nat, (∀ (r0 : Nat) (r1 : Nat) (x2 : Int32) (M : ao_M) (ρ : ao_H) (y : ao_S), fX9_read n 0 r0 r1 x2 0 M ρ = some y → ao_W Γ uX9_read (ao_rm d MC MS) (ao_Q Γ (ao_QV y) MC MS) (ao_dc ρ y.2) (ao_ds ρ y.2) 0 [some (.ref (Γ.2.2.2 + r0)), some (.ref (Γ.2.2.2 + r1)), some (.int x2), none] [] (M, ρ)) ∧ (∀ (r0 : Nat) (r1 : Nat) (x2 : Int32) (M : ao_M) (ρ : ao_H) (y : ao_S), fX9_read n 5 r0 r1 x2 0 M ρ = some y → ao_W Γ uX9_read (ao_rm d MC MS) (ao_Q Γ (ao_QV y) MC MS) (ao_dc ρ y.2) (ao_ds ρ y.2) 5 [some (.ref (Γ.2.2.2 + r0)), some (.ref (Γ.2.2.2 + r1)), some (.int x2), none] [] (M, ρ)) ∧ (∀ (r0 : Nat) (r1 : Nat) (x2 : Int32) (x3 : Int32) (M : ao_M) (ρ : ao_H) (y : ao_S), fX9_read n 27 r0 r1 x2 x3 M ρ = some y → ao_W Γ uX9_read (ao_rm d MC MS) (ao_Q Γ (ao_QV y) MC MS) (ao_dc ρ y.2) (ao_ds ρ y.2) 27 [some (.ref (Γ.2.2.2 + r0)), some (.ref (Γ.2.2.2 + r1)), some (.int x2), some (.int x3)] [] (M, ρ)) ∧ (∀ (r0 : Nat) (r1 : Nat) (x2 : Int32) (x3 : Int32) (M : ao_M) (ρ : ao_H) (y : ao_S), fX9_read n 88 r0 r1 x2 x3 M ρ = some y → ao_W Γ uX9_read (ao_rm d MC MS) (ao_Q Γ (ao_QV y) MC MS) (ao_dc ρ y.2) (ao_ds ρ y.2) 88 [some (.ref (Γ.2.2.2 + r0)), some (.ref (Γ.2.2.2 + r1)), some (.int x2), some (.int x3)] [] (M, ρ)) := by
  intro n
  induction n with
  | zero => exact ⟨fun _ _ _ _ _ _ h => ao_no h, fun _ _ _ _ _ _ h => ao_no h, fun _ _ _ _ _ _ _ h => ao_no h, fun _ _ _ _ _ _ _ h => ao_no h⟩
  | succ n ih =>
    refine ⟨?_, ?_, ?_, ?_⟩
    · intro r0 r1 x2 M ρ y h
      replace h := ao_ifT h rfl
      refine ao_aload_n 0 dX9_read_0 rfl rfl ?_
      refine ao_aload_n 1 dX9_read_1 rfl rfl ?_
      obtain ⟨hk1, h⟩ := ao_some h
      refine ba_putR r0 9 0 (q := (RX9, TX9, 11)) dX9_read_2 rfl hk1 (Nat.le_of_ble_eq_true rfl) lf_X9_9 (Or.inl rfl) rfl rfl rfl ?_
      exact ih.2.1 r0 r1 x2 M (ao_r ρ r0 0 (some r1)) _ h
    · intro r0 r1 x2 M ρ y h
      replace h := ao_ifF h (by decide)
      replace h := ao_ifT h rfl
      refine ao_aload_n 0 dX9_read_5 rfl rfl ?_
      refine ao_iload_n 2 dX9_read_6 rfl rfl ?_
      obtain ⟨hk2, h⟩ := ao_some h
      refine an_putI r0 9 1 (q := (RX9, TX9, 11)) dX9_read_7 rfl hk2 (Nat.le_of_ble_eq_true rfl) lf_X9_25 rfl rfl rfl rfl (fun M3 hM3 => ?_)
      replace h := ao_letD h hM3
      refine ao_aload_n 0 dX9_read_10 rfl rfl ?_
      refine ao_iconst (v := 0) dX9_read_11 (by decide) ?_
      refine an_putI r0 9 2 (q := (RX9, TX9, 11)) dX9_read_12 rfl hk2 (Nat.le_of_ble_eq_true rfl) lf_X9_29 rfl rfl rfl rfl (fun M4 hM4 => ?_)
      replace h := ao_letD h hM4
      refine ao_aload_n 0 dX9_read_15 rfl rfl ?_
      refine ao_iconst (v := 1) dX9_read_16 (by decide) ?_
      refine an_putI r0 9 8 (q := (RX9, TX9, 11)) dX9_read_17 rfl hk2 (Nat.le_of_ble_eq_true rfl) lf_X9_32 rfl rfl rfl rfl (fun M5 hM5 => ?_)
      replace h := ao_letD h hM5
      refine ao_aload_n 0 dX9_read_20 rfl rfl ?_
      refine ao_iconst (v := 0) dX9_read_21 (by decide) ?_
      refine an_putI r0 9 6 (q := (RX9, TX9, 11)) dX9_read_22 rfl hk2 (Nat.le_of_ble_eq_true rfl) lf_X9_35 rfl rfl rfl rfl (fun M6 hM6 => ?_)
      replace h := ao_letD h hM6
      refine ao_iconst (v := 0) dX9_read_25 (by decide) ?_
      refine ao_istore_n 3 (lo' := [some (.ref (Γ.2.2.2 + r0)), some (.ref (Γ.2.2.2 + r1)), some (.int x2), some (.int (0 : Int32))]) dX9_read_26 rfl (Nat.le_of_ble_eq_true rfl) rfl ?_
      exact ih.2.2.1 r0 r1 x2 (0 : Int32) M6 ρ _ h
    · intro r0 r1 x2 x3 M ρ y h
      replace h := ao_ifF h (by decide)
      replace h := ao_ifF h (by decide)
      replace h := ao_ifT h rfl
      refine ao_iload_n 3 dX9_read_27 rfl rfl ?_
      refine ao_sipush (v := 1001) dX9_read_28 (by decide) ?_
      refine ao_icmp_ge 88 dX9_read_31 (by decide) (fun c7 => ?_) (fun c7 => ?_)
      · replace h := ao_ifT h c7
        exact ih.2.2.2 r0 r1 x2 x3 M ρ _ h
      · replace h := ao_ifF h c7
        refine ao_aload_n 0 dX9_read_34 rfl rfl ?_
        obtain ⟨hk8, h⟩ := ao_some h
        refine an_getI r0 9 8 (q := (RX9, TX9, 11)) dX9_read_35 rfl hk8 (Nat.le_of_ble_eq_true rfl) rfl lf_X9_32 ?_
        refine ao_if_eq 88 dX9_read_38 (by decide) (fun c9 => ?_) (fun c9 => ?_)
        · replace h := ao_ifT h c9
          exact ih.2.2.2 r0 r1 x2 x3 M ρ _ h
        · replace h := ao_ifF h c9
          refine ao_aload_n 0 dX9_read_41 rfl rfl ?_
          obtain ⟨p10, hp10, h⟩ := ao_bind h
          refine an_callVv r0 9 (q := (RX9, TX9, 11)) [] (aX9_scan (d - 1) (by omega) _ r0 M ρ hp10) dX9_read_42 lc_X9_38 li_X9_scan ls_X9_scan rfl hk8 rfl rfl (Nat.le_of_ble_eq_true rfl) (ao_hR (by omega) (by decide)) ?_
          refine ao_aload_n 0 dX9_read_45 rfl rfl ?_
          obtain ⟨j11, hj11, h⟩ := ao_bind h
          refine an_getR r0 9 3 (q := (RX9, TX9, 11)) dX9_read_46 rfl hk8 (Nat.le_of_ble_eq_true rfl) rfl lf_X9_15 hj11 ?_
          refine ao_iload_n 3 dX9_read_49 rfl rfl ?_
          refine ao_aload_n 0 dX9_read_50 rfl rfl ?_
          refine an_getI r0 9 8 (q := (RX9, TX9, 11)) dX9_read_51 rfl hk8 (Nat.le_of_ble_eq_true rfl) rfl lf_X9_32 ?_
          obtain ⟨hk12, h⟩ := ao_some h
          obtain ⟨hb13, h⟩ := ao_some h
          refine an_iastore j11 dX9_read_54 hk12 hb13 (fun M14 hM14 => ?_)
          replace h := ao_letD h hM14
          refine ao_aload_n 0 dX9_read_55 rfl rfl ?_
          obtain ⟨j15, hj15, h⟩ := ao_bind h
          refine an_getR r0 9 4 (q := (RX9, TX9, 11)) dX9_read_56 rfl hk8 (Nat.le_of_ble_eq_true rfl) rfl lf_X9_19 hj15 ?_
          refine ao_iload_n 3 dX9_read_59 rfl rfl ?_
          refine ao_aload_n 0 dX9_read_60 rfl rfl ?_
          refine an_getI r0 9 9 (q := (RX9, TX9, 11)) dX9_read_61 rfl hk8 (Nat.le_of_ble_eq_true rfl) rfl lf_X9_41 ?_
          obtain ⟨hk16, h⟩ := ao_some h
          obtain ⟨hb17, h⟩ := ao_some h
          refine an_iastore j15 dX9_read_64 hk16 hb17 (fun M18 hM18 => ?_)
          replace h := ao_letD h hM18
          refine ao_aload_n 0 dX9_read_65 rfl rfl ?_
          obtain ⟨j19, hj19, h⟩ := ao_bind h
          refine an_getR r0 9 5 (q := (RX9, TX9, 11)) dX9_read_66 rfl hk8 (Nat.le_of_ble_eq_true rfl) rfl lf_X9_22 hj19 ?_
          refine ao_iload_n 3 dX9_read_69 rfl rfl ?_
          refine ao_aload_n 0 dX9_read_70 rfl rfl ?_
          refine an_getI r0 9 10 (q := (RX9, TX9, 11)) dX9_read_71 rfl hk8 (Nat.le_of_ble_eq_true rfl) rfl lf_X9_44 ?_
          obtain ⟨hk20, h⟩ := ao_some h
          obtain ⟨hb21, h⟩ := ao_some h
          refine an_iastore j19 dX9_read_74 hk20 hb21 (fun M22 hM22 => ?_)
          replace h := ao_letD h hM22
          refine ao_aload_n 0 dX9_read_75 rfl rfl ?_
          refine ao_iload_n 3 dX9_read_76 rfl rfl ?_
          refine ao_iconst (v := 1) dX9_read_77 (by decide) ?_
          refine ao_iadd dX9_read_78 ?_
          refine an_putI r0 9 6 (q := (RX9, TX9, 11)) dX9_read_79 rfl hk8 (Nat.le_of_ble_eq_true rfl) lf_X9_35 rfl rfl rfl rfl (fun M23 hM23 => ?_)
          replace h := ao_letD h hM23
          obtain ⟨v24, hv24⟩ : ∃ z : Int32, z = x3 + (1 : Int32) := ⟨_, rfl⟩
          replace h := ao_letD h hv24
          refine ao_iinc 3 (v := v24) (lo' := [some (.ref (Γ.2.2.2 + r0)), some (.ref (Γ.2.2.2 + r1)), some (.int x2), some (.int v24)]) dX9_read_82 rfl (by rw [hv24]; rfl) (Nat.le_of_ble_eq_true rfl) rfl ?_
          refine ao_goto 27 dX9_read_85 (by decide) ?_
          exact ih.2.2.1 r0 r1 x2 v24 M23 ρ _ h
    · intro r0 r1 x2 x3 M ρ y h
      replace h := ao_ifF h (by decide)
      replace h := ao_ifF h (by decide)
      replace h := ao_ifF h (by decide)
      replace h := ao_ifT h rfl
      refine ao_aload_n 0 dX9_read_88 rfl rfl ?_
      refine ao_iconst (v := (-1)) dX9_read_89 (by decide) ?_
      obtain ⟨hk25, h⟩ := ao_some h
      refine an_putI r0 9 7 (q := (RX9, TX9, 11)) dX9_read_90 rfl hk25 (Nat.le_of_ble_eq_true rfl) lf_X9_47 rfl rfl rfl rfl (fun M26 hM26 => ?_)
      replace h := ao_letD h hM26
      refine ao_aload_n 0 dX9_read_93 rfl rfl ?_
      obtain ⟨p27, hp27, h⟩ := ao_bind h
      refine an_callVv r0 9 (q := (RX9, TX9, 11)) [] (aX9_advance (d - 1) (by omega) _ r0 M26 ρ hp27) dX9_read_94 lc_X9_50 li_X9_advance ls_X9_advance rfl hk25 rfl rfl (Nat.le_of_ble_eq_true rfl) (ao_hR (by omega) (by decide)) ?_
      cases h
      exact ao_return dX9_read_97 rfl ⟨rfl, rfl⟩
theorem me_X9_read (n : Nat) (r0 : Nat) (r1 : Nat) (x2 : Int32) (M : ao_M) (ρ : ao_H) {y : ao_S} (h : gX9_read n r0 r1 x2 M ρ = some y) : ao_le ρ y.2 := (mX9_read n).1 r0 r1 x2 M ρ y h
set_option maxRecDepth 100000 in
set_option maxHeartbeats 4000000 in
theorem aX9_read {Γ : ao_C} (d : Nat) (hd : 8 ≤ d) (n : Nat) (r0 : Nat) (r1 : Nat) (x2 : Int32) (M : ao_M) (ρ : ao_H) {y : ao_S} (h : gX9_read n r0 r1 x2 M ρ = some y) : ao_A Γ uX9_read d (ao_dc ρ y.2) (ao_ds ρ y.2) [.ref (Γ.2.2.2 + r0), .ref (Γ.2.2.2 + r1), .int x2] (M, ρ) (ao_QV y) := by
  refine ao_of (by decide) (ao_cat1 (Nat.le_of_ble_eq_true rfl)) (Nat.le_of_ble_eq_true rfl) ?_
  show ao_W Γ uX9_read (ao_rm d (ao_dc ρ y.2) (ao_ds ρ y.2)) (ao_Q Γ (ao_QV y) (ao_dc ρ y.2) (ao_ds ρ y.2)) (ao_dc ρ y.2) (ao_ds ρ y.2) 0 [some (.ref (Γ.2.2.2 + r0)), some (.ref (Γ.2.2.2 + r1)), some (.int x2), none] [] (M, ρ)
  exact (wX9_read d hd _ _ n).1 r0 r1 x2 M ρ y h

abbrev uX2_step : ao_Mi := (yX2_step, cX2_step, 5, (some .int), [])
def fX2_step : Nat → Nat → Nat → Nat → Nat → Int32 → Int32 → Int32 →  ao_M → ao_H → Option (Int32 × ao_S)
  | 0, _, _, _, _, _, _, _, _, _ => none
  | n + 1, pc, r0, r1, r2, x3, x4, s0, M, ρ =>
    if pc = 0 then
      if ρ.2.1 r1 = 17 then
      (ρ.1 r1 1).bind fun j2 =>
      ao_let (M r1 3) fun v3 =>
      if v3 < 0 then
        fX2_step n 30 r0 r1 j2 v3 0 0 M ρ
      else
        if ρ.2.1 j2 = 11 then
        if (M j2 4) ≤ v3 then
          fX2_step n 30 r0 r1 j2 v3 0 0 M ρ
        else
          if v3 < (M j2 0) then
            ao_let (ao_u M r1 3 (v3 + (1 : Int32))) fun M8 =>
            (ρ.1 j2 2).bind fun j9 =>
            if ρ.2.1 j9 = 0 then
            if ¬ (v3 < 0 ∨ ρ.2.2.1 j9 ≤ v3.toNatClampNeg) then
            ao_let (M8 j9 v3.toNatClampNeg) fun v12 =>
            (ρ.1 j2 1).bind fun j13 =>
            if ρ.2.1 j13 = 0 then
            if ¬ (v3 < 0 ∨ ρ.2.2.1 j13 ≤ v3.toNatClampNeg) then
            ao_let (M8 j13 v3.toNatClampNeg) fun v16 =>
            if v16 = (3 : Int32) then
              if ρ.2.1 r0 = 12 then
              (gX2_see n r0 r1 v12 M8 ρ).bind fun p19 =>
              fX2_step n 159 r0 r1 j2 v3 v12 p19.1 p19.2.1 p19.2.2
              else none
            else
              if v16 = (11 : Int32) then
                (gX7_pop r1 M8 ρ).bind fun p21 =>
                if ρ.2.1 r0 = 12 then
                (gX2_write n r0 r1 v12 p21.1 p21.2 ρ).bind fun p23 =>
                fX2_step n 171 r0 r1 j2 v3 v12 p23.1 p23.2.1 p23.2.2
                else none
              else
                if v16 = (14 : Int32) then
                  (gX2_again r1 v12 M8 ρ).bind fun p25 =>
                  some (p25.1, p25.2, ρ)
                else
                  if v16 = (15 : Int32) then
                    (gX7_pop r1 M8 ρ).bind fun p27 =>
                    if ρ.2.1 r0 = 12 then
                    (gX2_say r0 r1 p27.1 p27.2 ρ).bind fun p29 =>
                    some (p29.1, p29.2, ρ)
                    else none
                  else
                    if v16 = (16 : Int32) then
                      if ρ.2.1 r0 = 12 then
                      (gX2_beginLevel n r0 r1 v3 M8 ρ).bind fun p32 =>
                      some (p32.1, p32.2, ρ)
                      else none
                    else
                      if v16 = (17 : Int32) then
                        if ρ.2.1 r0 = 12 then
                        (gX2_closeLevel n r0 r1 M8 ρ).bind fun p35 =>
                        fX2_step n 194 r0 r1 j2 v3 v12 p35.1 p35.2.1 p35.2.2
                        else none
                      else
                        if v16 = (18 : Int32) then
                          if ρ.2.1 r0 = 12 then
                          (gX2_retry n r0 r1 M8 ρ).bind fun p38 =>
                          fX2_step n 200 r0 r1 j2 v3 v12 p38.1 p38.2.1 p38.2.2
                          else none
                        else
                          if v16 = (19 : Int32) then
                            if ρ.2.1 r0 = 12 then
                            (gX2_quit n r0 r1 M8 ρ).bind fun p41 =>
                            fX2_step n 206 r0 r1 j2 v3 v12 p41.1 p41.2.1 p41.2.2
                            else none
                          else
                            if v16 = (20 : Int32) then
                              (gX7_pop r1 M8 ρ).bind fun p43 =>
                              if ρ.2.1 r0 = 12 then
                              (gX2_fail n r0 r1 p43.1 p43.2 ρ).bind fun p45 =>
                              fX2_step n 216 r0 r1 j2 v3 v12 p45.1 p45.2.1 p45.2.2
                              else none
                            else
                              if v16 = (21 : Int32) then
                                (gX7_enterTry r1 v3 M8 ρ).bind fun p47 =>
                                some ((-1 : Int32), p47, ρ)
                              else
                                if v16 = (22 : Int32) then
                                  (gX7_leaveTry r1 M8 ρ).bind fun p49 =>
                                  ao_let (ao_u p49 r1 3 v12) fun M50 =>
                                  some ((-1 : Int32), M50, ρ)
                                else
                                  fX2_step n 243 r0 r1 j2 v3 v12 0 M8 ρ
            else none
            else none
            else none
            else none
          else
            fX2_step n 30 r0 r1 j2 v3 0 0 M ρ
        else none
      else none
    else if pc = 30 then
      if ρ.2.1 r1 = 17 then
      ao_let (ao_u M r1 2 (4 : Int32)) fun M61 =>
      some ((2 : Int32), M61, ρ)
      else none
    else if pc = 159 then
      some (s0, M, ρ)
    else if pc = 171 then
      some (s0, M, ρ)
    else if pc = 194 then
      some (s0, M, ρ)
    else if pc = 200 then
      some (s0, M, ρ)
    else if pc = 206 then
      some (s0, M, ρ)
    else if pc = 216 then
      some (s0, M, ρ)
    else if pc = 243 then
      if ρ.2.1 r2 = 11 then
      (ρ.1 r2 1).bind fun j63 =>
      if ρ.2.1 j63 = 0 then
      if ¬ (x3 < 0 ∨ ρ.2.2.1 j63 ≤ x3.toNatClampNeg) then
      (gX2_onTheWay n r1 (M j63 x3.toNatClampNeg) x4 M ρ).bind fun p66 =>
      some ((-1 : Int32), p66, ρ)
      else none
      else none
      else none
    else none
def gX2_step (n : Nat) (r0 : Nat) (r1 : Nat) (M : ao_M) (ρ : ao_H) : Option (Int32 × ao_S) := fX2_step n 0 r0 r1 0 0 0 0 M ρ
set_option maxRecDepth 100000 in
set_option maxHeartbeats 4000000 in
theorem mX2_step : ∀ n : Nat, (∀ (r0 : Nat) (r1 : Nat) (M : ao_M) (ρ : ao_H) (y : Int32 × ao_S), fX2_step n 0 r0 r1 0 0 0 0 M ρ = some y → ao_le ρ y.2.2) ∧ (∀ (r0 : Nat) (r1 : Nat) (r2 : Nat) (x3 : Int32) (M : ao_M) (ρ : ao_H) (y : Int32 × ao_S), fX2_step n 30 r0 r1 r2 x3 0 0 M ρ = some y → ao_le ρ y.2.2) ∧ (∀ (r0 : Nat) (r1 : Nat) (r2 : Nat) (x3 : Int32) (x4 : Int32) (s0 : Int32) (M : ao_M) (ρ : ao_H) (y : Int32 × ao_S), fX2_step n 159 r0 r1 r2 x3 x4 s0 M ρ = some y → ao_le ρ y.2.2) ∧ (∀ (r0 : Nat) (r1 : Nat) (r2 : Nat) (x3 : Int32) (x4 : Int32) (s0 : Int32) (M : ao_M) (ρ : ao_H) (y : Int32 × ao_S), fX2_step n 171 r0 r1 r2 x3 x4 s0 M ρ = some y → ao_le ρ y.2.2) ∧ (∀ (r0 : Nat) (r1 : Nat) (r2 : Nat) (x3 : Int32) (x4 : Int32) (s0 : Int32) (M : ao_M) (ρ : ao_H) (y : Int32 × ao_S), fX2_step n 194 r0 r1 r2 x3 x4 s0 M ρ = some y → ao_le ρ y.2.2) ∧ (∀ (r0 : Nat) (r1 : Nat) (r2 : Nat) (x3 : Int32) (x4 : Int32) (s0 : Int32) (M : ao_M) (ρ : ao_H) (y : Int32 × ao_S), fX2_step n 200 r0 r1 r2 x3 x4 s0 M ρ = some y → ao_le ρ y.2.2) ∧ (∀ (r0 : Nat) (r1 : Nat) (r2 : Nat) (x3 : Int32) (x4 : Int32) (s0 : Int32) (M : ao_M) (ρ : ao_H) (y : Int32 × ao_S), fX2_step n 206 r0 r1 r2 x3 x4 s0 M ρ = some y → ao_le ρ y.2.2) ∧ (∀ (r0 : Nat) (r1 : Nat) (r2 : Nat) (x3 : Int32) (x4 : Int32) (s0 : Int32) (M : ao_M) (ρ : ao_H) (y : Int32 × ao_S), fX2_step n 216 r0 r1 r2 x3 x4 s0 M ρ = some y → ao_le ρ y.2.2) ∧ (∀ (r0 : Nat) (r1 : Nat) (r2 : Nat) (x3 : Int32) (x4 : Int32) (M : ao_M) (ρ : ao_H) (y : Int32 × ao_S), fX2_step n 243 r0 r1 r2 x3 x4 0 M ρ = some y → ao_le ρ y.2.2) := by
  intro n
  induction n with
  | zero => exact ⟨fun _ _ _ _ _ h => ao_no h, fun _ _ _ _ _ _ _ h => ao_no h, fun _ _ _ _ _ _ _ _ _ h => ao_no h, fun _ _ _ _ _ _ _ _ _ h => ao_no h, fun _ _ _ _ _ _ _ _ _ h => ao_no h, fun _ _ _ _ _ _ _ _ _ h => ao_no h, fun _ _ _ _ _ _ _ _ _ h => ao_no h, fun _ _ _ _ _ _ _ _ _ h => ao_no h, fun _ _ _ _ _ _ _ _ h => ao_no h⟩
  | succ n ih =>
    refine ⟨?_, ?_, ?_, ?_, ?_, ?_, ?_, ?_, ?_⟩
    · intro r0 r1 M ρ y h
      replace h := ao_ifT h rfl
      obtain ⟨-, h⟩ := ao_some h
      obtain ⟨j2, hj2, h⟩ := ao_bind h
      replace h := ao_letD h rfl
      generalize (M r1 3) = v3 at h
      rcases ao_ifC h with h | h
      · exact ih.2.1 r0 r1 j2 v3 M ρ _ h
      · obtain ⟨-, h⟩ := ao_some h
        rcases ao_ifC h with h | h
        · exact ih.2.1 r0 r1 j2 v3 M ρ _ h
        · rcases ao_ifC h with h | h
          · replace h := ao_letD h rfl
            generalize (ao_u M r1 3 (v3 + (1 : Int32))) = M8 at h
            obtain ⟨j9, hj9, h⟩ := ao_bind h
            obtain ⟨-, h⟩ := ao_some h
            obtain ⟨-, h⟩ := ao_some h
            replace h := ao_letD h rfl
            generalize (M8 j9 v3.toNatClampNeg) = v12 at h
            obtain ⟨j13, hj13, h⟩ := ao_bind h
            obtain ⟨-, h⟩ := ao_some h
            obtain ⟨-, h⟩ := ao_some h
            replace h := ao_letD h rfl
            generalize (M8 j13 v3.toNatClampNeg) = v16 at h
            rcases ao_ifC h with h | h
            · obtain ⟨-, h⟩ := ao_some h
              obtain ⟨p19, hp19, h⟩ := ao_bind h
              exact ao_le_tr (me_X2_see n r0 r1 v12 M8 ρ hp19) (ih.2.2.1 r0 r1 j2 v3 v12 p19.1 p19.2.1 p19.2.2 _ h)
            · rcases ao_ifC h with h | h
              · obtain ⟨p21, hp21, h⟩ := ao_bind h
                obtain ⟨-, h⟩ := ao_some h
                obtain ⟨p23, hp23, h⟩ := ao_bind h
                exact ao_le_tr (me_X2_write n r0 r1 v12 p21.1 p21.2 ρ hp23) (ih.2.2.2.1 r0 r1 j2 v3 v12 p23.1 p23.2.1 p23.2.2 _ h)
              · rcases ao_ifC h with h | h
                · obtain ⟨p25, hp25, h⟩ := ao_bind h
                  cases h
                  exact ao_le_rf _
                · rcases ao_ifC h with h | h
                  · obtain ⟨p27, hp27, h⟩ := ao_bind h
                    obtain ⟨-, h⟩ := ao_some h
                    obtain ⟨p29, hp29, h⟩ := ao_bind h
                    cases h
                    exact ao_le_rf _
                  · rcases ao_ifC h with h | h
                    · obtain ⟨-, h⟩ := ao_some h
                      obtain ⟨p32, hp32, h⟩ := ao_bind h
                      cases h
                      exact ao_le_rf _
                    · rcases ao_ifC h with h | h
                      · obtain ⟨-, h⟩ := ao_some h
                        obtain ⟨p35, hp35, h⟩ := ao_bind h
                        exact ao_le_tr (me_X2_closeLevel n r0 r1 M8 ρ hp35) (ih.2.2.2.2.1 r0 r1 j2 v3 v12 p35.1 p35.2.1 p35.2.2 _ h)
                      · rcases ao_ifC h with h | h
                        · obtain ⟨-, h⟩ := ao_some h
                          obtain ⟨p38, hp38, h⟩ := ao_bind h
                          exact ao_le_tr (me_X2_retry n r0 r1 M8 ρ hp38) (ih.2.2.2.2.2.1 r0 r1 j2 v3 v12 p38.1 p38.2.1 p38.2.2 _ h)
                        · rcases ao_ifC h with h | h
                          · obtain ⟨-, h⟩ := ao_some h
                            obtain ⟨p41, hp41, h⟩ := ao_bind h
                            exact ao_le_tr (me_X2_quit n r0 r1 M8 ρ hp41) (ih.2.2.2.2.2.2.1 r0 r1 j2 v3 v12 p41.1 p41.2.1 p41.2.2 _ h)
                          · rcases ao_ifC h with h | h
                            · obtain ⟨p43, hp43, h⟩ := ao_bind h
                              obtain ⟨-, h⟩ := ao_some h
                              obtain ⟨p45, hp45, h⟩ := ao_bind h
                              exact ao_le_tr (me_X2_fail n r0 r1 p43.1 p43.2 ρ hp45) (ih.2.2.2.2.2.2.2.1 r0 r1 j2 v3 v12 p45.1 p45.2.1 p45.2.2 _ h)
                            · rcases ao_ifC h with h | h
                              · obtain ⟨p47, hp47, h⟩ := ao_bind h
                                cases h
                                exact ao_le_rf _
                              · rcases ao_ifC h with h | h
                                · obtain ⟨p49, hp49, h⟩ := ao_bind h
                                  replace h := ao_letD h rfl
                                  generalize (ao_u p49 r1 3 v12) = M50 at h
                                  cases h
                                  exact ao_le_rf _
                                · exact ih.2.2.2.2.2.2.2.2 r0 r1 j2 v3 v12 M8 ρ _ h
          · exact ih.2.1 r0 r1 j2 v3 M ρ _ h
    · intro r0 r1 r2 x3 M ρ y h
      replace h := ao_ifF h (by decide)
      replace h := ao_ifT h rfl
      obtain ⟨-, h⟩ := ao_some h
      replace h := ao_letD h rfl
      generalize (ao_u M r1 2 (4 : Int32)) = M61 at h
      cases h
      exact ao_le_rf _
    · intro r0 r1 r2 x3 x4 s0 M ρ y h
      replace h := ao_ifF h (by decide)
      replace h := ao_ifF h (by decide)
      replace h := ao_ifT h rfl
      cases h
      exact ao_le_rf _
    · intro r0 r1 r2 x3 x4 s0 M ρ y h
      replace h := ao_ifF h (by decide)
      replace h := ao_ifF h (by decide)
      replace h := ao_ifF h (by decide)
      replace h := ao_ifT h rfl
      cases h
      exact ao_le_rf _
    · intro r0 r1 r2 x3 x4 s0 M ρ y h
      replace h := ao_ifF h (by decide)
      replace h := ao_ifF h (by decide)
      replace h := ao_ifF h (by decide)
      replace h := ao_ifF h (by decide)
      replace h := ao_ifT h rfl
      cases h
      exact ao_le_rf _
    · intro r0 r1 r2 x3 x4 s0 M ρ y h
      replace h := ao_ifF h (by decide)
      replace h := ao_ifF h (by decide)
      replace h := ao_ifF h (by decide)
      replace h := ao_ifF h (by decide)
      replace h := ao_ifF h (by decide)
      replace h := ao_ifT h rfl
      cases h
      exact ao_le_rf _
    · intro r0 r1 r2 x3 x4 s0 M ρ y h
      replace h := ao_ifF h (by decide)
      replace h := ao_ifF h (by decide)
      replace h := ao_ifF h (by decide)
      replace h := ao_ifF h (by decide)
      replace h := ao_ifF h (by decide)
      replace h := ao_ifF h (by decide)
      replace h := ao_ifT h rfl
      cases h
      exact ao_le_rf _
    · intro r0 r1 r2 x3 x4 s0 M ρ y h
      replace h := ao_ifF h (by decide)
      replace h := ao_ifF h (by decide)
      replace h := ao_ifF h (by decide)
      replace h := ao_ifF h (by decide)
      replace h := ao_ifF h (by decide)
      replace h := ao_ifF h (by decide)
      replace h := ao_ifF h (by decide)
      replace h := ao_ifT h rfl
      cases h
      exact ao_le_rf _
    · intro r0 r1 r2 x3 x4 M ρ y h
      replace h := ao_ifF h (by decide)
      replace h := ao_ifF h (by decide)
      replace h := ao_ifF h (by decide)
      replace h := ao_ifF h (by decide)
      replace h := ao_ifF h (by decide)
      replace h := ao_ifF h (by decide)
      replace h := ao_ifF h (by decide)
      replace h := ao_ifF h (by decide)
      replace h := ao_ifT h rfl
      obtain ⟨-, h⟩ := ao_some h
      obtain ⟨j63, hj63, h⟩ := ao_bind h
      obtain ⟨-, h⟩ := ao_some h
      obtain ⟨-, h⟩ := ao_some h
      obtain ⟨p66, hp66, h⟩ := ao_bind h
      cases h
      exact ao_le_rf _
set_option maxRecDepth 100000 in
set_option maxHeartbeats 4000000 in
theorem wX2_step {Γ : ao_C} (d : Nat) (hd : 7 ≤ d) (MC MS : Nat) : ∀ n : Nat, (∀ (r0 : Nat) (r1 : Nat) (M : ao_M) (ρ : ao_H) (y : Int32 × ao_S), fX2_step n 0 r0 r1 0 0 0 0 M ρ = some y → ao_W Γ uX2_step (ao_rm d MC MS) (ao_Q Γ (ao_QI y) MC MS) (ao_dc ρ y.2.2) (ao_ds ρ y.2.2) 0 [some (.ref (Γ.2.2.2 + r0)), some (.ref (Γ.2.2.2 + r1)), none, none, none] [] (M, ρ)) ∧ (∀ (r0 : Nat) (r1 : Nat) (r2 : Nat) (x3 : Int32) (M : ao_M) (ρ : ao_H) (y : Int32 × ao_S), fX2_step n 30 r0 r1 r2 x3 0 0 M ρ = some y → ao_W Γ uX2_step (ao_rm d MC MS) (ao_Q Γ (ao_QI y) MC MS) (ao_dc ρ y.2.2) (ao_ds ρ y.2.2) 30 [some (.ref (Γ.2.2.2 + r0)), some (.ref (Γ.2.2.2 + r1)), some (.ref (Γ.2.2.2 + r2)), some (.int x3), none] [] (M, ρ)) ∧ (∀ (r0 : Nat) (r1 : Nat) (r2 : Nat) (x3 : Int32) (x4 : Int32) (s0 : Int32) (M : ao_M) (ρ : ao_H) (y : Int32 × ao_S), fX2_step n 159 r0 r1 r2 x3 x4 s0 M ρ = some y → ao_W Γ uX2_step (ao_rm d MC MS) (ao_Q Γ (ao_QI y) MC MS) (ao_dc ρ y.2.2) (ao_ds ρ y.2.2) 159 [some (.ref (Γ.2.2.2 + r0)), some (.ref (Γ.2.2.2 + r1)), some (.ref (Γ.2.2.2 + r2)), some (.int x3), some (.int x4)] [.int s0] (M, ρ)) ∧ (∀ (r0 : Nat) (r1 : Nat) (r2 : Nat) (x3 : Int32) (x4 : Int32) (s0 : Int32) (M : ao_M) (ρ : ao_H) (y : Int32 × ao_S), fX2_step n 171 r0 r1 r2 x3 x4 s0 M ρ = some y → ao_W Γ uX2_step (ao_rm d MC MS) (ao_Q Γ (ao_QI y) MC MS) (ao_dc ρ y.2.2) (ao_ds ρ y.2.2) 171 [some (.ref (Γ.2.2.2 + r0)), some (.ref (Γ.2.2.2 + r1)), some (.ref (Γ.2.2.2 + r2)), some (.int x3), some (.int x4)] [.int s0] (M, ρ)) ∧ (∀ (r0 : Nat) (r1 : Nat) (r2 : Nat) (x3 : Int32) (x4 : Int32) (s0 : Int32) (M : ao_M) (ρ : ao_H) (y : Int32 × ao_S), fX2_step n 194 r0 r1 r2 x3 x4 s0 M ρ = some y → ao_W Γ uX2_step (ao_rm d MC MS) (ao_Q Γ (ao_QI y) MC MS) (ao_dc ρ y.2.2) (ao_ds ρ y.2.2) 194 [some (.ref (Γ.2.2.2 + r0)), some (.ref (Γ.2.2.2 + r1)), some (.ref (Γ.2.2.2 + r2)), some (.int x3), some (.int x4)] [.int s0] (M, ρ)) ∧ (∀ (r0 : Nat) (r1 : Nat) (r2 : Nat) (x3 : Int32) (x4 : Int32) (s0 : Int32) (M : ao_M) (ρ : ao_H) (y : Int32 × ao_S), fX2_step n 200 r0 r1 r2 x3 x4 s0 M ρ = some y → ao_W Γ uX2_step (ao_rm d MC MS) (ao_Q Γ (ao_QI y) MC MS) (ao_dc ρ y.2.2) (ao_ds ρ y.2.2) 200 [some (.ref (Γ.2.2.2 + r0)), some (.ref (Γ.2.2.2 + r1)), some (.ref (Γ.2.2.2 + r2)), some (.int x3), some (.int x4)] [.int s0] (M, ρ)) ∧ (∀ (r0 : Nat) (r1 : Nat) (r2 : Nat) (x3 : Int32) (x4 : Int32) (s0 : Int32) (M : ao_M) (ρ : ao_H) (y : Int32 × ao_S), fX2_step n 206 r0 r1 r2 x3 x4 s0 M ρ = some y → ao_W Γ uX2_step (ao_rm d MC MS) (ao_Q Γ (ao_QI y) MC MS) (ao_dc ρ y.2.2) (ao_ds ρ y.2.2) 206 [some (.ref (Γ.2.2.2 + r0)), some (.ref (Γ.2.2.2 + r1)), some (.ref (Γ.2.2.2 + r2)), some (.int x3), some (.int x4)] [.int s0] (M, ρ)) ∧ (∀ (r0 : Nat) (r1 : Nat) (r2 : Nat) (x3 : Int32) (x4 : Int32) (s0 : Int32) (M : ao_M) (ρ : ao_H) (y : Int32 × ao_S), fX2_step n 216 r0 r1 r2 x3 x4 s0 M ρ = some y → ao_W Γ uX2_step (ao_rm d MC MS) (ao_Q Γ (ao_QI y) MC MS) (ao_dc ρ y.2.2) (ao_ds ρ y.2.2) 216 [some (.ref (Γ.2.2.2 + r0)), some (.ref (Γ.2.2.2 + r1)), some (.ref (Γ.2.2.2 + r2)), some (.int x3), some (.int x4)] [.int s0] (M, ρ)) ∧ (∀ (r0 : Nat) (r1 : Nat) (r2 : Nat) (x3 : Int32) (x4 : Int32) (M : ao_M) (ρ : ao_H) (y : Int32 × ao_S), fX2_step n 243 r0 r1 r2 x3 x4 0 M ρ = some y → ao_W Γ uX2_step (ao_rm d MC MS) (ao_Q Γ (ao_QI y) MC MS) (ao_dc ρ y.2.2) (ao_ds ρ y.2.2) 243 [some (.ref (Γ.2.2.2 + r0)), some (.ref (Γ.2.2.2 + r1)), some (.ref (Γ.2.2.2 + r2)), some (.int x3), some (.int x4)] [] (M, ρ)) := by
  intro n
  induction n with
  | zero => exact ⟨fun _ _ _ _ _ h => ao_no h, fun _ _ _ _ _ _ _ h => ao_no h, fun _ _ _ _ _ _ _ _ _ h => ao_no h, fun _ _ _ _ _ _ _ _ _ h => ao_no h, fun _ _ _ _ _ _ _ _ _ h => ao_no h, fun _ _ _ _ _ _ _ _ _ h => ao_no h, fun _ _ _ _ _ _ _ _ _ h => ao_no h, fun _ _ _ _ _ _ _ _ _ h => ao_no h, fun _ _ _ _ _ _ _ _ h => ao_no h⟩
  | succ n ih =>
    refine ⟨?_, ?_, ?_, ?_, ?_, ?_, ?_, ?_, ?_⟩
    · intro r0 r1 M ρ y h
      replace h := ao_ifT h rfl
      refine ao_aload_n 1 dX2_step_0 rfl rfl ?_
      obtain ⟨hk1, h⟩ := ao_some h
      obtain ⟨j2, hj2, h⟩ := ao_bind h
      refine an_getR r1 7 1 (q := (RX7, TX7, 20)) dX2_step_1 rfl hk1 (Nat.le_of_ble_eq_true rfl) rfl lf_X2_88 hj2 ?_
      refine ao_astore_n 2 (lo' := [some (.ref (Γ.2.2.2 + r0)), some (.ref (Γ.2.2.2 + r1)), some (.ref (Γ.2.2.2 + j2)), none, none]) dX2_step_4 rfl (Nat.le_of_ble_eq_true rfl) rfl ?_
      refine ao_aload_n 1 dX2_step_5 rfl rfl ?_
      refine an_getI r1 7 3 (q := (RX7, TX7, 20)) dX2_step_6 rfl hk1 (Nat.le_of_ble_eq_true rfl) rfl lf_X2_92 ?_
      refine an_topi (fun v3 hv3 => ?_)
      replace h := ao_letD h hv3
      refine ao_istore_n 3 (lo' := [some (.ref (Γ.2.2.2 + r0)), some (.ref (Γ.2.2.2 + r1)), some (.ref (Γ.2.2.2 + j2)), some (.int v3), none]) dX2_step_9 rfl (Nat.le_of_ble_eq_true rfl) rfl ?_
      refine ao_iload_n 3 dX2_step_10 rfl rfl ?_
      refine ao_if_lt 30 dX2_step_11 (by decide) (fun c4 => ?_) (fun c4 => ?_)
      · replace h := ao_ifT h c4
        exact ih.2.1 r0 r1 j2 v3 M ρ _ h
      · replace h := ao_ifF h c4
        refine ao_iload_n 3 dX2_step_14 rfl rfl ?_
        refine ao_aload_n 2 dX2_step_15 rfl rfl ?_
        obtain ⟨hk5, h⟩ := ao_some h
        refine an_getI j2 1 4 (q := (RX1, TX1, 6)) dX2_step_16 rfl hk5 (Nat.le_of_ble_eq_true rfl) rfl lf_X2_95 ?_
        refine ao_icmp_ge 30 dX2_step_19 (by decide) (fun c6 => ?_) (fun c6 => ?_)
        · replace h := ao_ifT h c6
          exact ih.2.1 r0 r1 j2 v3 M ρ _ h
        · replace h := ao_ifF h c6
          refine ao_iload_n 3 dX2_step_22 rfl rfl ?_
          refine ao_aload_n 2 dX2_step_23 rfl rfl ?_
          refine an_getI j2 1 0 (q := (RX1, TX1, 6)) dX2_step_24 rfl hk5 (Nat.le_of_ble_eq_true rfl) rfl lf_X2_100 ?_
          refine ao_icmp_lt 37 dX2_step_27 (by decide) (fun c7 => ?_) (fun c7 => ?_)
          · replace h := ao_ifT h c7
            refine ao_aload_n 1 dX2_step_37 rfl rfl ?_
            refine ao_iload_n 3 dX2_step_38 rfl rfl ?_
            refine ao_iconst (v := 1) dX2_step_39 (by decide) ?_
            refine ao_iadd dX2_step_40 ?_
            refine an_putI r1 7 3 (q := (RX7, TX7, 20)) dX2_step_41 rfl hk1 (Nat.le_of_ble_eq_true rfl) lf_X2_92 rfl rfl rfl rfl (fun M8 hM8 => ?_)
            replace h := ao_letD h hM8
            refine ao_aload_n 2 dX2_step_44 rfl rfl ?_
            obtain ⟨j9, hj9, h⟩ := ao_bind h
            refine an_getR j2 1 2 (q := (RX1, TX1, 6)) dX2_step_45 rfl hk5 (Nat.le_of_ble_eq_true rfl) rfl lf_X2_103 hj9 ?_
            refine ao_iload_n 3 dX2_step_48 rfl rfl ?_
            obtain ⟨hk10, h⟩ := ao_some h
            obtain ⟨hb11, h⟩ := ao_some h
            refine an_iaload j9 dX2_step_49 hk10 hb11 ?_
            refine an_topi (fun v12 hv12 => ?_)
            replace h := ao_letD h hv12
            refine ao_istore 4 (lo' := [some (.ref (Γ.2.2.2 + r0)), some (.ref (Γ.2.2.2 + r1)), some (.ref (Γ.2.2.2 + j2)), some (.int v3), some (.int v12)]) dX2_step_50 (Nat.le_of_ble_eq_true rfl) rfl ?_
            refine ao_aload_n 2 dX2_step_52 rfl rfl ?_
            obtain ⟨j13, hj13, h⟩ := ao_bind h
            refine an_getR j2 1 1 (q := (RX1, TX1, 6)) dX2_step_53 rfl hk5 (Nat.le_of_ble_eq_true rfl) rfl lf_X2_107 hj13 ?_
            refine ao_iload_n 3 dX2_step_56 rfl rfl ?_
            obtain ⟨hk14, h⟩ := ao_some h
            obtain ⟨hb15, h⟩ := ao_some h
            refine an_iaload j13 dX2_step_57 hk14 hb15 ?_
            refine an_topi (fun v16 hv16 => ?_)
            replace h := ao_letD h hv16
            by_cases c17 : v16 = (3 : Int32)
            · replace h := ao_ifT h c17
              refine ao_tableIn 152 dX2_step_58 (by rw [c17]; decide) (by rw [c17]; decide) (by rw [c17]; rfl) (by decide) ?_
              refine ao_aload_n 0 dX2_step_152 rfl rfl ?_
              refine ao_aload_n 1 dX2_step_153 rfl rfl ?_
              refine ao_iload 4 dX2_step_154 rfl ?_
              obtain ⟨hk18, h⟩ := ao_some h
              obtain ⟨p19, hp19, h⟩ := ao_bind h
              refine ba_callVi r0 2 (q := (RX2, TX2, 7)) [.ref (Γ.2.2.2 + r1), .int v12] (aX2_see (d - 1) (by omega) n r0 r1 v12 M8 ρ hp19) dX2_step_156 lc_X2_110 li_X2_see ls_X2_see rfl hk18 rfl rfl (Nat.le_of_ble_eq_true rfl) (ao_hR (by omega) (by decide)) (ao_leC (me_X2_see n r0 r1 v12 M8 ρ hp19) ((mX2_step n).2.2.1 r0 r1 j2 v3 v12 p19.1 p19.2.1 p19.2.2 _ h)) (ao_leS (me_X2_see n r0 r1 v12 M8 ρ hp19) ((mX2_step n).2.2.1 r0 r1 j2 v3 v12 p19.1 p19.2.1 p19.2.2 _ h)) ?_
              exact ih.2.2.1 r0 r1 j2 v3 v12 p19.1 p19.2.1 p19.2.2 _ h
            · replace h := ao_ifF h c17
              by_cases c20 : v16 = (11 : Int32)
              · replace h := ao_ifT h c20
                refine ao_tableIn 160 dX2_step_58 (by rw [c20]; decide) (by rw [c20]; decide) (by rw [c20]; rfl) (by decide) ?_
                refine ao_aload_n 0 dX2_step_160 rfl rfl ?_
                refine ao_aload_n 1 dX2_step_161 rfl rfl ?_
                refine ao_iload 4 dX2_step_162 rfl ?_
                refine ao_aload_n 1 dX2_step_164 rfl rfl ?_
                obtain ⟨p21, hp21, h⟩ := ao_bind h
                refine an_callVi r1 7 (q := (RX7, TX7, 20)) [] (aX7_pop (d - 1) (by omega) r1 M8 ρ hp21) dX2_step_165 lc_X2_114 li_X7_pop ls_X7_pop rfl hk1 rfl rfl (Nat.le_of_ble_eq_true rfl) (ao_hR (by omega) (by decide)) ?_
                obtain ⟨hk22, h⟩ := ao_some h
                obtain ⟨p23, hp23, h⟩ := ao_bind h
                refine ba_callVi r0 2 (q := (RX2, TX2, 7)) [.ref (Γ.2.2.2 + r1), .int v12, .int p21.1] (aX2_write (d - 1) (by omega) n r0 r1 v12 p21.1 p21.2 ρ hp23) dX2_step_168 lc_X2_117 li_X2_write ls_X2_write rfl hk22 rfl rfl (Nat.le_of_ble_eq_true rfl) (ao_hR (by omega) (by decide)) (ao_leC (me_X2_write n r0 r1 v12 p21.1 p21.2 ρ hp23) ((mX2_step n).2.2.2.1 r0 r1 j2 v3 v12 p23.1 p23.2.1 p23.2.2 _ h)) (ao_leS (me_X2_write n r0 r1 v12 p21.1 p21.2 ρ hp23) ((mX2_step n).2.2.2.1 r0 r1 j2 v3 v12 p23.1 p23.2.1 p23.2.2 _ h)) ?_
                exact ih.2.2.2.1 r0 r1 j2 v3 v12 p23.1 p23.2.1 p23.2.2 _ h
              · replace h := ao_ifF h c20
                by_cases c24 : v16 = (14 : Int32)
                · replace h := ao_ifT h c24
                  refine ao_tableIn 217 dX2_step_58 (by rw [c24]; decide) (by rw [c24]; decide) (by rw [c24]; rfl) (by decide) ?_
                  refine ao_aload_n 1 dX2_step_217 rfl rfl ?_
                  refine ao_iload 4 dX2_step_218 rfl ?_
                  obtain ⟨p25, hp25, h⟩ := ao_bind h
                  refine an_callSi [.ref (Γ.2.2.2 + r1), .int v12] (aX2_again (d - 1) (by omega) r1 v12 M8 ρ hp25) dX2_step_220 lc_X2_139 lt_X2_again rfl rfl (Nat.le_of_ble_eq_true rfl) (ao_hR (by omega) (by decide)) ?_
                  cases h
                  exact ao_ireturn dX2_step_223 rfl rfl ⟨rfl, rfl⟩
                · replace h := ao_ifF h c24
                  by_cases c26 : v16 = (15 : Int32)
                  · replace h := ao_ifT h c26
                    refine ao_tableIn 172 dX2_step_58 (by rw [c26]; decide) (by rw [c26]; decide) (by rw [c26]; rfl) (by decide) ?_
                    refine ao_aload_n 0 dX2_step_172 rfl rfl ?_
                    refine ao_aload_n 1 dX2_step_173 rfl rfl ?_
                    refine ao_aload_n 1 dX2_step_174 rfl rfl ?_
                    obtain ⟨p27, hp27, h⟩ := ao_bind h
                    refine an_callVi r1 7 (q := (RX7, TX7, 20)) [] (aX7_pop (d - 1) (by omega) r1 M8 ρ hp27) dX2_step_175 lc_X2_114 li_X7_pop ls_X7_pop rfl hk1 rfl rfl (Nat.le_of_ble_eq_true rfl) (ao_hR (by omega) (by decide)) ?_
                    obtain ⟨hk28, h⟩ := ao_some h
                    obtain ⟨p29, hp29, h⟩ := ao_bind h
                    refine an_callVi r0 2 (q := (RX2, TX2, 7)) [.ref (Γ.2.2.2 + r1), .int p27.1] (aX2_say (d - 1) (by omega) r0 r1 p27.1 p27.2 ρ hp29) dX2_step_178 lc_X2_121 li_X2_say ls_X2_say rfl hk28 rfl rfl (Nat.le_of_ble_eq_true rfl) (ao_hR (by omega) (by decide)) ?_
                    cases h
                    exact ao_ireturn dX2_step_181 rfl rfl ⟨rfl, rfl⟩
                  · replace h := ao_ifF h c26
                    by_cases c30 : v16 = (16 : Int32)
                    · replace h := ao_ifT h c30
                      refine ao_tableIn 182 dX2_step_58 (by rw [c30]; decide) (by rw [c30]; decide) (by rw [c30]; rfl) (by decide) ?_
                      refine ao_aload_n 0 dX2_step_182 rfl rfl ?_
                      refine ao_aload_n 1 dX2_step_183 rfl rfl ?_
                      refine ao_iload_n 3 dX2_step_184 rfl rfl ?_
                      obtain ⟨hk31, h⟩ := ao_some h
                      obtain ⟨p32, hp32, h⟩ := ao_bind h
                      refine an_callVi r0 2 (q := (RX2, TX2, 7)) [.ref (Γ.2.2.2 + r1), .int v3] (aX2_beginLevel (d - 1) (by omega) _ r0 r1 v3 M8 ρ hp32) dX2_step_185 lc_X2_124 li_X2_beginLevel ls_X2_beginLevel rfl hk31 rfl rfl (Nat.le_of_ble_eq_true rfl) (ao_hR (by omega) (by decide)) ?_
                      cases h
                      exact ao_ireturn dX2_step_188 rfl rfl ⟨rfl, rfl⟩
                    · replace h := ao_ifF h c30
                      by_cases c33 : v16 = (17 : Int32)
                      · replace h := ao_ifT h c33
                        refine ao_tableIn 189 dX2_step_58 (by rw [c33]; decide) (by rw [c33]; decide) (by rw [c33]; rfl) (by decide) ?_
                        refine ao_aload_n 0 dX2_step_189 rfl rfl ?_
                        refine ao_aload_n 1 dX2_step_190 rfl rfl ?_
                        obtain ⟨hk34, h⟩ := ao_some h
                        obtain ⟨p35, hp35, h⟩ := ao_bind h
                        refine ba_callVi r0 2 (q := (RX2, TX2, 7)) [.ref (Γ.2.2.2 + r1)] (aX2_closeLevel (d - 1) (by omega) n r0 r1 M8 ρ hp35) dX2_step_191 lc_X2_127 li_X2_closeLevel ls_X2_closeLevel rfl hk34 rfl rfl (Nat.le_of_ble_eq_true rfl) (ao_hR (by omega) (by decide)) (ao_leC (me_X2_closeLevel n r0 r1 M8 ρ hp35) ((mX2_step n).2.2.2.2.1 r0 r1 j2 v3 v12 p35.1 p35.2.1 p35.2.2 _ h)) (ao_leS (me_X2_closeLevel n r0 r1 M8 ρ hp35) ((mX2_step n).2.2.2.2.1 r0 r1 j2 v3 v12 p35.1 p35.2.1 p35.2.2 _ h)) ?_
                        exact ih.2.2.2.2.1 r0 r1 j2 v3 v12 p35.1 p35.2.1 p35.2.2 _ h
                      · replace h := ao_ifF h c33
                        by_cases c36 : v16 = (18 : Int32)
                        · replace h := ao_ifT h c36
                          refine ao_tableIn 195 dX2_step_58 (by rw [c36]; decide) (by rw [c36]; decide) (by rw [c36]; rfl) (by decide) ?_
                          refine ao_aload_n 0 dX2_step_195 rfl rfl ?_
                          refine ao_aload_n 1 dX2_step_196 rfl rfl ?_
                          obtain ⟨hk37, h⟩ := ao_some h
                          obtain ⟨p38, hp38, h⟩ := ao_bind h
                          refine ba_callVi r0 2 (q := (RX2, TX2, 7)) [.ref (Γ.2.2.2 + r1)] (aX2_retry (d - 1) (by omega) n r0 r1 M8 ρ hp38) dX2_step_197 lc_X2_130 li_X2_retry ls_X2_retry rfl hk37 rfl rfl (Nat.le_of_ble_eq_true rfl) (ao_hR (by omega) (by decide)) (ao_leC (me_X2_retry n r0 r1 M8 ρ hp38) ((mX2_step n).2.2.2.2.2.1 r0 r1 j2 v3 v12 p38.1 p38.2.1 p38.2.2 _ h)) (ao_leS (me_X2_retry n r0 r1 M8 ρ hp38) ((mX2_step n).2.2.2.2.2.1 r0 r1 j2 v3 v12 p38.1 p38.2.1 p38.2.2 _ h)) ?_
                          exact ih.2.2.2.2.2.1 r0 r1 j2 v3 v12 p38.1 p38.2.1 p38.2.2 _ h
                        · replace h := ao_ifF h c36
                          by_cases c39 : v16 = (19 : Int32)
                          · replace h := ao_ifT h c39
                            refine ao_tableIn 201 dX2_step_58 (by rw [c39]; decide) (by rw [c39]; decide) (by rw [c39]; rfl) (by decide) ?_
                            refine ao_aload_n 0 dX2_step_201 rfl rfl ?_
                            refine ao_aload_n 1 dX2_step_202 rfl rfl ?_
                            obtain ⟨hk40, h⟩ := ao_some h
                            obtain ⟨p41, hp41, h⟩ := ao_bind h
                            refine ba_callVi r0 2 (q := (RX2, TX2, 7)) [.ref (Γ.2.2.2 + r1)] (aX2_quit (d - 1) (by omega) n r0 r1 M8 ρ hp41) dX2_step_203 lc_X2_133 li_X2_quit ls_X2_quit rfl hk40 rfl rfl (Nat.le_of_ble_eq_true rfl) (ao_hR (by omega) (by decide)) (ao_leC (me_X2_quit n r0 r1 M8 ρ hp41) ((mX2_step n).2.2.2.2.2.2.1 r0 r1 j2 v3 v12 p41.1 p41.2.1 p41.2.2 _ h)) (ao_leS (me_X2_quit n r0 r1 M8 ρ hp41) ((mX2_step n).2.2.2.2.2.2.1 r0 r1 j2 v3 v12 p41.1 p41.2.1 p41.2.2 _ h)) ?_
                            exact ih.2.2.2.2.2.2.1 r0 r1 j2 v3 v12 p41.1 p41.2.1 p41.2.2 _ h
                          · replace h := ao_ifF h c39
                            by_cases c42 : v16 = (20 : Int32)
                            · replace h := ao_ifT h c42
                              refine ao_tableIn 207 dX2_step_58 (by rw [c42]; decide) (by rw [c42]; decide) (by rw [c42]; rfl) (by decide) ?_
                              refine ao_aload_n 0 dX2_step_207 rfl rfl ?_
                              refine ao_aload_n 1 dX2_step_208 rfl rfl ?_
                              refine ao_aload_n 1 dX2_step_209 rfl rfl ?_
                              obtain ⟨p43, hp43, h⟩ := ao_bind h
                              refine an_callVi r1 7 (q := (RX7, TX7, 20)) [] (aX7_pop (d - 1) (by omega) r1 M8 ρ hp43) dX2_step_210 lc_X2_114 li_X7_pop ls_X7_pop rfl hk1 rfl rfl (Nat.le_of_ble_eq_true rfl) (ao_hR (by omega) (by decide)) ?_
                              obtain ⟨hk44, h⟩ := ao_some h
                              obtain ⟨p45, hp45, h⟩ := ao_bind h
                              refine ba_callVi r0 2 (q := (RX2, TX2, 7)) [.ref (Γ.2.2.2 + r1), .int p43.1] (aX2_fail (d - 1) (by omega) n r0 r1 p43.1 p43.2 ρ hp45) dX2_step_213 lc_X2_136 li_X2_fail ls_X2_fail rfl hk44 rfl rfl (Nat.le_of_ble_eq_true rfl) (ao_hR (by omega) (by decide)) (ao_leC (me_X2_fail n r0 r1 p43.1 p43.2 ρ hp45) ((mX2_step n).2.2.2.2.2.2.2.1 r0 r1 j2 v3 v12 p45.1 p45.2.1 p45.2.2 _ h)) (ao_leS (me_X2_fail n r0 r1 p43.1 p43.2 ρ hp45) ((mX2_step n).2.2.2.2.2.2.2.1 r0 r1 j2 v3 v12 p45.1 p45.2.1 p45.2.2 _ h)) ?_
                              exact ih.2.2.2.2.2.2.2.1 r0 r1 j2 v3 v12 p45.1 p45.2.1 p45.2.2 _ h
                            · replace h := ao_ifF h c42
                              by_cases c46 : v16 = (21 : Int32)
                              · replace h := ao_ifT h c46
                                refine ao_tableIn 224 dX2_step_58 (by rw [c46]; decide) (by rw [c46]; decide) (by rw [c46]; rfl) (by decide) ?_
                                refine ao_aload_n 1 dX2_step_224 rfl rfl ?_
                                refine ao_iload_n 3 dX2_step_225 rfl rfl ?_
                                obtain ⟨p47, hp47, h⟩ := ao_bind h
                                refine an_callVv r1 7 (q := (RX7, TX7, 20)) [.int v3] (aX7_enterTry (d - 1) (by omega) r1 v3 M8 ρ hp47) dX2_step_226 lc_X2_142 li_X7_enterTry ls_X7_enterTry rfl hk1 rfl rfl (Nat.le_of_ble_eq_true rfl) (ao_hR (by omega) (by decide)) ?_
                                refine ao_iconst (v := (-1)) dX2_step_229 (by decide) ?_
                                cases h
                                exact ao_ireturn dX2_step_230 rfl rfl ⟨rfl, rfl⟩
                              · replace h := ao_ifF h c46
                                by_cases c48 : v16 = (22 : Int32)
                                · replace h := ao_ifT h c48
                                  refine ao_tableIn 231 dX2_step_58 (by rw [c48]; decide) (by rw [c48]; decide) (by rw [c48]; rfl) (by decide) ?_
                                  refine ao_aload_n 1 dX2_step_231 rfl rfl ?_
                                  obtain ⟨p49, hp49, h⟩ := ao_bind h
                                  refine an_callVv r1 7 (q := (RX7, TX7, 20)) [] (aX7_leaveTry (d - 1) (by omega) r1 M8 ρ hp49) dX2_step_232 lc_X2_145 li_X7_leaveTry ls_X7_leaveTry rfl hk1 rfl rfl (Nat.le_of_ble_eq_true rfl) (ao_hR (by omega) (by decide)) ?_
                                  refine ao_aload_n 1 dX2_step_235 rfl rfl ?_
                                  refine ao_iload 4 dX2_step_236 rfl ?_
                                  refine an_putI r1 7 3 (q := (RX7, TX7, 20)) dX2_step_238 rfl hk1 (Nat.le_of_ble_eq_true rfl) lf_X2_92 rfl rfl rfl rfl (fun M50 hM50 => ?_)
                                  replace h := ao_letD h hM50
                                  refine ao_iconst (v := (-1)) dX2_step_241 (by decide) ?_
                                  cases h
                                  exact ao_ireturn dX2_step_242 rfl rfl ⟨rfl, rfl⟩
                                · replace h := ao_ifF h c48
                                  by_cases c51 : v16 = (4 : Int32)
                                  · refine ao_tableIn 243 dX2_step_58 (by rw [c51]; decide) (by rw [c51]; decide) (by rw [c51]; rfl) (by decide) ?_
                                    exact ih.2.2.2.2.2.2.2.2 r0 r1 j2 v3 v12 M8 ρ _ h
                                  · by_cases c52 : v16 = (5 : Int32)
                                    · refine ao_tableIn 243 dX2_step_58 (by rw [c52]; decide) (by rw [c52]; decide) (by rw [c52]; rfl) (by decide) ?_
                                      exact ih.2.2.2.2.2.2.2.2 r0 r1 j2 v3 v12 M8 ρ _ h
                                    · by_cases c53 : v16 = (6 : Int32)
                                      · refine ao_tableIn 243 dX2_step_58 (by rw [c53]; decide) (by rw [c53]; decide) (by rw [c53]; rfl) (by decide) ?_
                                        exact ih.2.2.2.2.2.2.2.2 r0 r1 j2 v3 v12 M8 ρ _ h
                                      · by_cases c54 : v16 = (7 : Int32)
                                        · refine ao_tableIn 243 dX2_step_58 (by rw [c54]; decide) (by rw [c54]; decide) (by rw [c54]; rfl) (by decide) ?_
                                          exact ih.2.2.2.2.2.2.2.2 r0 r1 j2 v3 v12 M8 ρ _ h
                                        · by_cases c55 : v16 = (8 : Int32)
                                          · refine ao_tableIn 243 dX2_step_58 (by rw [c55]; decide) (by rw [c55]; decide) (by rw [c55]; rfl) (by decide) ?_
                                            exact ih.2.2.2.2.2.2.2.2 r0 r1 j2 v3 v12 M8 ρ _ h
                                          · by_cases c56 : v16 = (9 : Int32)
                                            · refine ao_tableIn 243 dX2_step_58 (by rw [c56]; decide) (by rw [c56]; decide) (by rw [c56]; rfl) (by decide) ?_
                                              exact ih.2.2.2.2.2.2.2.2 r0 r1 j2 v3 v12 M8 ρ _ h
                                            · by_cases c57 : v16 = (10 : Int32)
                                              · refine ao_tableIn 243 dX2_step_58 (by rw [c57]; decide) (by rw [c57]; decide) (by rw [c57]; rfl) (by decide) ?_
                                                exact ih.2.2.2.2.2.2.2.2 r0 r1 j2 v3 v12 M8 ρ _ h
                                              · by_cases c58 : v16 = (12 : Int32)
                                                · refine ao_tableIn 243 dX2_step_58 (by rw [c58]; decide) (by rw [c58]; decide) (by rw [c58]; rfl) (by decide) ?_
                                                  exact ih.2.2.2.2.2.2.2.2 r0 r1 j2 v3 v12 M8 ρ _ h
                                                · by_cases c59 : v16 = (13 : Int32)
                                                  · refine ao_tableIn 243 dX2_step_58 (by rw [c59]; decide) (by rw [c59]; decide) (by rw [c59]; rfl) (by decide) ?_
                                                    exact ih.2.2.2.2.2.2.2.2 r0 r1 j2 v3 v12 M8 ρ _ h
                                                  · refine ao_tableOut 243 dX2_step_58 (by have nc17 := ao_ne (z := 3) c17 (by decide); have nc20 := ao_ne (z := 11) c20 (by decide); have nc24 := ao_ne (z := 14) c24 (by decide); have nc26 := ao_ne (z := 15) c26 (by decide); have nc30 := ao_ne (z := 16) c30 (by decide); have nc33 := ao_ne (z := 17) c33 (by decide); have nc36 := ao_ne (z := 18) c36 (by decide); have nc39 := ao_ne (z := 19) c39 (by decide); have nc42 := ao_ne (z := 20) c42 (by decide); have nc46 := ao_ne (z := 21) c46 (by decide); have nc48 := ao_ne (z := 22) c48 (by decide); have nc51 := ao_ne (z := 4) c51 (by decide); have nc52 := ao_ne (z := 5) c52 (by decide); have nc53 := ao_ne (z := 6) c53 (by decide); have nc54 := ao_ne (z := 7) c54 (by decide); have nc55 := ao_ne (z := 8) c55 (by decide); have nc56 := ao_ne (z := 9) c56 (by decide); have nc57 := ao_ne (z := 10) c57 (by decide); have nc58 := ao_ne (z := 12) c58 (by decide); have nc59 := ao_ne (z := 13) c59 (by decide); omega) (by decide) ?_
                                                    exact ih.2.2.2.2.2.2.2.2 r0 r1 j2 v3 v12 M8 ρ _ h
          · replace h := ao_ifF h c7
            exact ih.2.1 r0 r1 j2 v3 M ρ _ h
    · intro r0 r1 r2 x3 M ρ y h
      replace h := ao_ifF h (by decide)
      replace h := ao_ifT h rfl
      refine ao_aload_n 1 dX2_step_30 rfl rfl ?_
      refine ao_iconst (v := 4) dX2_step_31 (by decide) ?_
      obtain ⟨hk60, h⟩ := ao_some h
      refine an_putI r1 7 2 (q := (RX7, TX7, 20)) dX2_step_32 rfl hk60 (Nat.le_of_ble_eq_true rfl) lf_X2_55 rfl rfl rfl rfl (fun M61 hM61 => ?_)
      replace h := ao_letD h hM61
      refine ao_iconst (v := 2) dX2_step_35 (by decide) ?_
      cases h
      exact ao_ireturn dX2_step_36 rfl rfl ⟨rfl, rfl⟩
    · intro r0 r1 r2 x3 x4 s0 M ρ y h
      replace h := ao_ifF h (by decide)
      replace h := ao_ifF h (by decide)
      replace h := ao_ifT h rfl
      cases h
      exact ao_ireturn dX2_step_159 rfl rfl ⟨rfl, rfl⟩
    · intro r0 r1 r2 x3 x4 s0 M ρ y h
      replace h := ao_ifF h (by decide)
      replace h := ao_ifF h (by decide)
      replace h := ao_ifF h (by decide)
      replace h := ao_ifT h rfl
      cases h
      exact ao_ireturn dX2_step_171 rfl rfl ⟨rfl, rfl⟩
    · intro r0 r1 r2 x3 x4 s0 M ρ y h
      replace h := ao_ifF h (by decide)
      replace h := ao_ifF h (by decide)
      replace h := ao_ifF h (by decide)
      replace h := ao_ifF h (by decide)
      replace h := ao_ifT h rfl
      cases h
      exact ao_ireturn dX2_step_194 rfl rfl ⟨rfl, rfl⟩
    · intro r0 r1 r2 x3 x4 s0 M ρ y h
      replace h := ao_ifF h (by decide)
      replace h := ao_ifF h (by decide)
      replace h := ao_ifF h (by decide)
      replace h := ao_ifF h (by decide)
      replace h := ao_ifF h (by decide)
      replace h := ao_ifT h rfl
      cases h
      exact ao_ireturn dX2_step_200 rfl rfl ⟨rfl, rfl⟩
    · intro r0 r1 r2 x3 x4 s0 M ρ y h
      replace h := ao_ifF h (by decide)
      replace h := ao_ifF h (by decide)
      replace h := ao_ifF h (by decide)
      replace h := ao_ifF h (by decide)
      replace h := ao_ifF h (by decide)
      replace h := ao_ifF h (by decide)
      replace h := ao_ifT h rfl
      cases h
      exact ao_ireturn dX2_step_206 rfl rfl ⟨rfl, rfl⟩
    · intro r0 r1 r2 x3 x4 s0 M ρ y h
      replace h := ao_ifF h (by decide)
      replace h := ao_ifF h (by decide)
      replace h := ao_ifF h (by decide)
      replace h := ao_ifF h (by decide)
      replace h := ao_ifF h (by decide)
      replace h := ao_ifF h (by decide)
      replace h := ao_ifF h (by decide)
      replace h := ao_ifT h rfl
      cases h
      exact ao_ireturn dX2_step_216 rfl rfl ⟨rfl, rfl⟩
    · intro r0 r1 r2 x3 x4 M ρ y h
      replace h := ao_ifF h (by decide)
      replace h := ao_ifF h (by decide)
      replace h := ao_ifF h (by decide)
      replace h := ao_ifF h (by decide)
      replace h := ao_ifF h (by decide)
      replace h := ao_ifF h (by decide)
      replace h := ao_ifF h (by decide)
      replace h := ao_ifF h (by decide)
      replace h := ao_ifT h rfl
      refine ao_aload_n 1 dX2_step_243 rfl rfl ?_
      refine ao_aload_n 2 dX2_step_244 rfl rfl ?_
      obtain ⟨hk62, h⟩ := ao_some h
      obtain ⟨j63, hj63, h⟩ := ao_bind h
      refine an_getR r2 1 1 (q := (RX1, TX1, 6)) dX2_step_245 rfl hk62 (Nat.le_of_ble_eq_true rfl) rfl lf_X2_107 hj63 ?_
      refine ao_iload_n 3 dX2_step_248 rfl rfl ?_
      obtain ⟨hk64, h⟩ := ao_some h
      obtain ⟨hb65, h⟩ := ao_some h
      refine an_iaload j63 dX2_step_249 hk64 hb65 ?_
      refine ao_iload 4 dX2_step_250 rfl ?_
      obtain ⟨p66, hp66, h⟩ := ao_bind h
      refine an_callSv [.ref (Γ.2.2.2 + r1), .int (M j63 x3.toNatClampNeg), .int x4] (aX2_onTheWay (d - 1) (by omega) _ r1 (M j63 x3.toNatClampNeg) x4 M ρ hp66) dX2_step_252 lc_X2_148 lt_X2_onTheWay rfl rfl (Nat.le_of_ble_eq_true rfl) (ao_hR (by omega) (by decide)) ?_
      refine ao_iconst (v := (-1)) dX2_step_255 (by decide) ?_
      cases h
      exact ao_ireturn dX2_step_256 rfl rfl ⟨rfl, rfl⟩
theorem me_X2_step (n : Nat) (r0 : Nat) (r1 : Nat) (M : ao_M) (ρ : ao_H) {y : Int32 × ao_S} (h : gX2_step n r0 r1 M ρ = some y) : ao_le ρ y.2.2 := (mX2_step n).1 r0 r1 M ρ y h
set_option maxRecDepth 100000 in
set_option maxHeartbeats 4000000 in
theorem aX2_step {Γ : ao_C} (d : Nat) (hd : 7 ≤ d) (n : Nat) (r0 : Nat) (r1 : Nat) (M : ao_M) (ρ : ao_H) {y : Int32 × ao_S} (h : gX2_step n r0 r1 M ρ = some y) : ao_A Γ uX2_step d (ao_dc ρ y.2.2) (ao_ds ρ y.2.2) [.ref (Γ.2.2.2 + r0), .ref (Γ.2.2.2 + r1)] (M, ρ) (ao_QI y) := by
  refine ao_of (by decide) (ao_cat1 (Nat.le_of_ble_eq_true rfl)) (Nat.le_of_ble_eq_true rfl) ?_
  show ao_W Γ uX2_step (ao_rm d (ao_dc ρ y.2.2) (ao_ds ρ y.2.2)) (ao_Q Γ (ao_QI y) (ao_dc ρ y.2.2) (ao_ds ρ y.2.2)) (ao_dc ρ y.2.2) (ao_ds ρ y.2.2) 0 [some (.ref (Γ.2.2.2 + r0)), some (.ref (Γ.2.2.2 + r1)), none, none, none] [] (M, ρ)
  exact (wX2_step d hd _ _ n).1 r0 r1 M ρ y h

abbrev uX4_parse : ao_Mi := (yX4_parse, cX4_parse, 3, (some .boolean), [])
def fX4_parse : Nat → Nat → Nat → Nat → Int32 →  ao_M → ao_H → Option (Int32 × ao_S)
  | 0, _, _, _, _, _, _ => none
  | n + 1, pc, r0, r1, x2, M, ρ =>
    if pc = 0 then
      if ρ.2.1 r0 = 14 then
      (ρ.1 r0 1).bind fun j2 =>
      if ρ.2.1 j2 = 11 then
      (gX1_clear j2 M ρ).bind fun p4 =>
      ao_let (ao_u p4 r0 2 (-1 : Int32)) fun M5 =>
      (ρ.1 r0 0).bind fun j6 =>
      if ρ.2.1 j6 = 19 then
      (gX9_read n j6 r1 x2 M5 ρ).bind fun p8 =>
      fX4_parse n 21 r0 r1 x2 p8.1 p8.2
      else none
      else none
      else none
    else if pc = 21 then
      if ρ.2.1 r0 = 14 then
      (gX4_statements n r0 (0 : Int32) (0 : Int32) M ρ).bind fun p10 =>
      if p10.1 = 0 then
        some ((0 : Int32), p10.2, ρ)
      else
        (ρ.1 r0 0).bind fun j12 =>
        if ρ.2.1 j12 = 19 then
        if (p10.2 j12 8) = 0 then
          fX4_parse n 47 r0 r1 x2 p10.2 ρ
        else
          (gX4_broken r0 p10.2 ρ).bind fun p15 =>
          if p15.1 = 0 then
            some ((0 : Int32), p15.2, ρ)
          else
            fX4_parse n 47 r0 r1 x2 p15.2 ρ
        else none
      else none
    else if pc = 47 then
      some ((1 : Int32), M, ρ)
    else none
def gX4_parse (n : Nat) (r0 : Nat) (r1 : Nat) (x2 : Int32) (M : ao_M) (ρ : ao_H) : Option (Int32 × ao_S) := fX4_parse n 0 r0 r1 x2 M ρ
set_option maxRecDepth 100000 in
set_option maxHeartbeats 4000000 in
theorem mX4_parse : ∀ n : Nat, (∀ (r0 : Nat) (r1 : Nat) (x2 : Int32) (M : ao_M) (ρ : ao_H) (y : Int32 × ao_S), fX4_parse n 0 r0 r1 x2 M ρ = some y → ao_le ρ y.2.2) ∧ (∀ (r0 : Nat) (r1 : Nat) (x2 : Int32) (M : ao_M) (ρ : ao_H) (y : Int32 × ao_S), fX4_parse n 21 r0 r1 x2 M ρ = some y → ao_le ρ y.2.2) ∧ (∀ (r0 : Nat) (r1 : Nat) (x2 : Int32) (M : ao_M) (ρ : ao_H) (y : Int32 × ao_S), fX4_parse n 47 r0 r1 x2 M ρ = some y → ao_le ρ y.2.2) := by
  intro n
  induction n with
  | zero => exact ⟨fun _ _ _ _ _ _ h => ao_no h, fun _ _ _ _ _ _ h => ao_no h, fun _ _ _ _ _ _ h => ao_no h⟩
  | succ n ih =>
    refine ⟨?_, ?_, ?_⟩
    · intro r0 r1 x2 M ρ y h
      replace h := ao_ifT h rfl
      obtain ⟨-, h⟩ := ao_some h
      obtain ⟨j2, hj2, h⟩ := ao_bind h
      obtain ⟨-, h⟩ := ao_some h
      obtain ⟨p4, hp4, h⟩ := ao_bind h
      replace h := ao_letD h rfl
      generalize (ao_u p4 r0 2 (-1 : Int32)) = M5 at h
      obtain ⟨j6, hj6, h⟩ := ao_bind h
      obtain ⟨-, h⟩ := ao_some h
      obtain ⟨p8, hp8, h⟩ := ao_bind h
      exact ao_le_tr (me_X9_read n j6 r1 x2 M5 ρ hp8) (ih.2.1 r0 r1 x2 p8.1 p8.2 _ h)
    · intro r0 r1 x2 M ρ y h
      replace h := ao_ifF h (by decide)
      replace h := ao_ifT h rfl
      obtain ⟨-, h⟩ := ao_some h
      obtain ⟨p10, hp10, h⟩ := ao_bind h
      rcases ao_ifC h with h | h
      · cases h
        exact ao_le_rf _
      · obtain ⟨j12, hj12, h⟩ := ao_bind h
        obtain ⟨-, h⟩ := ao_some h
        rcases ao_ifC h with h | h
        · exact ih.2.2 r0 r1 x2 p10.2 ρ _ h
        · obtain ⟨p15, hp15, h⟩ := ao_bind h
          rcases ao_ifC h with h | h
          · cases h
            exact ao_le_rf _
          · exact ih.2.2 r0 r1 x2 p15.2 ρ _ h
    · intro r0 r1 x2 M ρ y h
      replace h := ao_ifF h (by decide)
      replace h := ao_ifF h (by decide)
      replace h := ao_ifT h rfl
      cases h
      exact ao_le_rf _
set_option maxRecDepth 100000 in
set_option maxHeartbeats 4000000 in
theorem wX4_parse {Γ : ao_C} (d : Nat) (hd : 134 ≤ d) (MC MS : Nat) : ∀ n : Nat, (∀ (r0 : Nat) (r1 : Nat) (x2 : Int32) (M : ao_M) (ρ : ao_H) (y : Int32 × ao_S), fX4_parse n 0 r0 r1 x2 M ρ = some y → ao_W Γ uX4_parse (ao_rm d MC MS) (ao_Q Γ (ao_QI y) MC MS) (ao_dc ρ y.2.2) (ao_ds ρ y.2.2) 0 [some (.ref (Γ.2.2.2 + r0)), some (.ref (Γ.2.2.2 + r1)), some (.int x2)] [] (M, ρ)) ∧ (∀ (r0 : Nat) (r1 : Nat) (x2 : Int32) (M : ao_M) (ρ : ao_H) (y : Int32 × ao_S), fX4_parse n 21 r0 r1 x2 M ρ = some y → ao_W Γ uX4_parse (ao_rm d MC MS) (ao_Q Γ (ao_QI y) MC MS) (ao_dc ρ y.2.2) (ao_ds ρ y.2.2) 21 [some (.ref (Γ.2.2.2 + r0)), some (.ref (Γ.2.2.2 + r1)), some (.int x2)] [] (M, ρ)) ∧ (∀ (r0 : Nat) (r1 : Nat) (x2 : Int32) (M : ao_M) (ρ : ao_H) (y : Int32 × ao_S), fX4_parse n 47 r0 r1 x2 M ρ = some y → ao_W Γ uX4_parse (ao_rm d MC MS) (ao_Q Γ (ao_QI y) MC MS) (ao_dc ρ y.2.2) (ao_ds ρ y.2.2) 47 [some (.ref (Γ.2.2.2 + r0)), some (.ref (Γ.2.2.2 + r1)), some (.int x2)] [] (M, ρ)) := by
  intro n
  induction n with
  | zero => exact ⟨fun _ _ _ _ _ _ h => ao_no h, fun _ _ _ _ _ _ h => ao_no h, fun _ _ _ _ _ _ h => ao_no h⟩
  | succ n ih =>
    refine ⟨?_, ?_, ?_⟩
    · intro r0 r1 x2 M ρ y h
      replace h := ao_ifT h rfl
      refine ao_aload_n 0 dX4_parse_0 rfl rfl ?_
      obtain ⟨hk1, h⟩ := ao_some h
      obtain ⟨j2, hj2, h⟩ := ao_bind h
      refine an_getR r0 4 1 (q := (RX4, TX4, 3)) dX4_parse_1 rfl hk1 (Nat.le_of_ble_eq_true rfl) rfl lf_X4_23 hj2 ?_
      obtain ⟨hk3, h⟩ := ao_some h
      obtain ⟨p4, hp4, h⟩ := ao_bind h
      refine an_callVv j2 1 (q := (RX1, TX1, 6)) [] (aX1_clear (d - 1) (by omega) j2 M ρ hp4) dX4_parse_4 lc_X4_31 li_X1_clear ls_X1_clear rfl hk3 rfl rfl (Nat.le_of_ble_eq_true rfl) (ao_hR (by omega) (by decide)) ?_
      refine ao_aload_n 0 dX4_parse_7 rfl rfl ?_
      refine ao_iconst (v := (-1)) dX4_parse_8 (by decide) ?_
      refine an_putI r0 4 2 (q := (RX4, TX4, 3)) dX4_parse_9 rfl hk1 (Nat.le_of_ble_eq_true rfl) lf_X4_27 rfl rfl rfl rfl (fun M5 hM5 => ?_)
      replace h := ao_letD h hM5
      refine ao_aload_n 0 dX4_parse_12 rfl rfl ?_
      obtain ⟨j6, hj6, h⟩ := ao_bind h
      refine an_getR r0 4 0 (q := (RX4, TX4, 3)) dX4_parse_13 rfl hk1 (Nat.le_of_ble_eq_true rfl) rfl lf_X4_12 hj6 ?_
      refine ao_aload_n 1 dX4_parse_16 rfl rfl ?_
      refine ao_iload_n 2 dX4_parse_17 rfl rfl ?_
      obtain ⟨hk7, h⟩ := ao_some h
      obtain ⟨p8, hp8, h⟩ := ao_bind h
      refine ba_callVv j6 9 (q := (RX9, TX9, 11)) [.ref (Γ.2.2.2 + r1), .int x2] (aX9_read (d - 1) (by omega) n j6 r1 x2 M5 ρ hp8) dX4_parse_18 lc_X4_34 li_X9_read ls_X9_read rfl hk7 rfl rfl (Nat.le_of_ble_eq_true rfl) (ao_hR (by omega) (by decide)) (ao_leC (me_X9_read n j6 r1 x2 M5 ρ hp8) ((mX4_parse n).2.1 r0 r1 x2 p8.1 p8.2 _ h)) (ao_leS (me_X9_read n j6 r1 x2 M5 ρ hp8) ((mX4_parse n).2.1 r0 r1 x2 p8.1 p8.2 _ h)) ?_
      exact ih.2.1 r0 r1 x2 p8.1 p8.2 _ h
    · intro r0 r1 x2 M ρ y h
      replace h := ao_ifF h (by decide)
      replace h := ao_ifT h rfl
      refine ao_aload_n 0 dX4_parse_21 rfl rfl ?_
      refine ao_iconst (v := 0) dX4_parse_22 (by decide) ?_
      refine ao_iconst (v := 0) dX4_parse_23 (by decide) ?_
      obtain ⟨hk9, h⟩ := ao_some h
      obtain ⟨p10, hp10, h⟩ := ao_bind h
      refine an_callVi r0 4 (q := (RX4, TX4, 3)) [.int (0 : Int32), .int (0 : Int32)] (aX4_statements (d - 1) (by omega) _ r0 (0 : Int32) (0 : Int32) M ρ hp10) dX4_parse_24 lc_X4_38 li_X4_statements ls_X4_statements rfl hk9 rfl rfl (Nat.le_of_ble_eq_true rfl) (ao_hR (by omega) (by decide)) ?_
      refine ao_if_eq 51 dX4_parse_27 (by decide) (fun c11 => ?_) (fun c11 => ?_)
      · replace h := ao_ifT h c11
        refine ao_iconst (v := 0) dX4_parse_51 (by decide) ?_
        cases h
        exact ao_ireturn dX4_parse_52 rfl rfl ⟨rfl, rfl⟩
      · replace h := ao_ifF h c11
        refine ao_aload_n 0 dX4_parse_30 rfl rfl ?_
        obtain ⟨j12, hj12, h⟩ := ao_bind h
        refine an_getR r0 4 0 (q := (RX4, TX4, 3)) dX4_parse_31 rfl hk9 (Nat.le_of_ble_eq_true rfl) rfl lf_X4_12 hj12 ?_
        obtain ⟨hk13, h⟩ := ao_some h
        refine an_getI j12 9 8 (q := (RX9, TX9, 11)) dX4_parse_34 rfl hk13 (Nat.le_of_ble_eq_true rfl) rfl lf_X4_42 ?_
        refine ao_if_eq 47 dX4_parse_37 (by decide) (fun c14 => ?_) (fun c14 => ?_)
        · replace h := ao_ifT h c14
          exact ih.2.2 r0 r1 x2 p10.2 ρ _ h
        · replace h := ao_ifF h c14
          refine ao_aload_n 0 dX4_parse_40 rfl rfl ?_
          obtain ⟨p15, hp15, h⟩ := ao_bind h
          refine an_callVi r0 4 (q := (RX4, TX4, 3)) [] (aX4_broken (d - 1) (by omega) r0 p10.2 ρ hp15) dX4_parse_41 lc_X4_45 li_X4_broken ls_X4_broken rfl hk9 rfl rfl (Nat.le_of_ble_eq_true rfl) (ao_hR (by omega) (by decide)) ?_
          refine ao_if_eq 51 dX4_parse_44 (by decide) (fun c16 => ?_) (fun c16 => ?_)
          · replace h := ao_ifT h c16
            refine ao_iconst (v := 0) dX4_parse_51 (by decide) ?_
            cases h
            exact ao_ireturn dX4_parse_52 rfl rfl ⟨rfl, rfl⟩
          · replace h := ao_ifF h c16
            exact ih.2.2 r0 r1 x2 p15.2 ρ _ h
    · intro r0 r1 x2 M ρ y h
      replace h := ao_ifF h (by decide)
      replace h := ao_ifF h (by decide)
      replace h := ao_ifT h rfl
      refine ao_iconst (v := 1) dX4_parse_47 (by decide) ?_
      refine ao_goto 52 dX4_parse_48 (by decide) ?_
      cases h
      exact ao_ireturn dX4_parse_52 rfl rfl ⟨rfl, rfl⟩
theorem me_X4_parse (n : Nat) (r0 : Nat) (r1 : Nat) (x2 : Int32) (M : ao_M) (ρ : ao_H) {y : Int32 × ao_S} (h : gX4_parse n r0 r1 x2 M ρ = some y) : ao_le ρ y.2.2 := (mX4_parse n).1 r0 r1 x2 M ρ y h
set_option maxRecDepth 100000 in
set_option maxHeartbeats 4000000 in
theorem aX4_parse {Γ : ao_C} (d : Nat) (hd : 134 ≤ d) (n : Nat) (r0 : Nat) (r1 : Nat) (x2 : Int32) (M : ao_M) (ρ : ao_H) {y : Int32 × ao_S} (h : gX4_parse n r0 r1 x2 M ρ = some y) : ao_A Γ uX4_parse d (ao_dc ρ y.2.2) (ao_ds ρ y.2.2) [.ref (Γ.2.2.2 + r0), .ref (Γ.2.2.2 + r1), .int x2] (M, ρ) (ao_QI y) := by
  refine ao_of (by decide) (ao_cat1 (Nat.le_of_ble_eq_true rfl)) (Nat.le_of_ble_eq_true rfl) ?_
  show ao_W Γ uX4_parse (ao_rm d (ao_dc ρ y.2.2) (ao_ds ρ y.2.2)) (ao_Q Γ (ao_QI y) (ao_dc ρ y.2.2) (ao_ds ρ y.2.2)) (ao_dc ρ y.2.2) (ao_ds ρ y.2.2) 0 [some (.ref (Γ.2.2.2 + r0)), some (.ref (Γ.2.2.2 + r1)), some (.int x2)] [] (M, ρ)
  exact (wX4_parse d hd _ _ n).1 r0 r1 x2 M ρ y h

abbrev uX10_program : ao_Mi := (yX10_program, cX10_program, 4, (some .int), [])
def fX10_program : Nat → Nat → Nat → Int32 → Int32 → Nat → Nat → Int32 → Nat →  ao_M → ao_H → Option ((Int32 ⊕ String) × ao_S)
  | 0, _, _, _, _, _, _, _, _, _, _ => none
  | n + 1, pc, r0, x1, x2, r3, q0, s0, q1, M, ρ =>
    if pc = 0 then
      if ρ.2.1 r0 = 20 then
      ao_let (M r0 4) fun v2 =>
      ao_let (ao_u M r0 4 (0 : Int32)) fun M3 =>
      if x1 < 0 then
        fX10_program n 20 r0 x1 v2 0 0 0 0 M3 ρ
      else
        if x1 < (6 : Int32) then
          (ρ.1 r0 2).bind fun j6 =>
          if ρ.2.1 j6 = 12 then
          (ρ.1 j6 1).bind fun j8 =>
          if ρ.2.1 j8 = 4 then
          if ¬ (x1 < 0 ∨ ρ.2.2.1 j8 ≤ x1.toNatClampNeg) then
          (ρ.1 j8 x1.toNatClampNeg).bind fun j11 =>
          if ρ.2.1 j11 = 17 then
          if (M3 j11 2) = (2 : Int32) then
            some (.inr "java/lang/IllegalStateException", M3, ao_th ρ)
          else
            (ρ.1 r0 1).bind fun j14 =>
            (ρ.1 r0 0).bind fun j15 =>
            if ρ.2.1 j14 = 14 then
            (gX4_parse n j14 j15 v2 M3 ρ).bind fun p17 =>
            fX10_program n 70 r0 x1 v2 j11 0 p17.1 0 p17.2.1 p17.2.2
            else none
          else none
          else none
          else none
          else none
        else
          fX10_program n 20 r0 x1 v2 0 0 0 0 M3 ρ
      else none
    else if pc = 20 then
      some (.inr "java/lang/IllegalArgumentException", M, ao_th ρ)
    else if pc = 70 then
      if s0 = 0 then
        if ρ.2.1 r0 = 20 then
        (ρ.1 r0 1).bind fun j27 =>
        if ρ.2.1 j27 = 14 then
        ao_let (ao_u M r0 5 (M j27 2)) fun M29 =>
        some (.inr "java/lang/UnsupportedOperationException", M29, ao_th ρ)
        else none
        else none
      else
        if ρ.2.1 r0 = 20 then
        ao_let (ao_u M r0 5 (-1 : Int32)) fun M20 =>
        (ρ.1 r0 1).bind fun j21 =>
        if ρ.2.1 j21 = 14 then
        (ρ.1 j21 1).bind fun j23 =>
        if ρ.2.1 j23 = 11 then
        (gX1_copy n j23 M20 ρ).bind fun p25 =>
        fX10_program n 110 r0 x1 x2 r3 p25.1 0 r3 p25.2.1 p25.2.2
        else none
        else none
        else none
    else if pc = 110 then
      if ρ.2.1 q1 = 17 then
      fX10_program n 113 r0 x1 x2 r3 0 0 0 M (ao_r ρ q1 1 (some q0))
      else none
    else if pc = 113 then
      if ρ.2.1 r3 = 17 then
      (gX7_renew n r3 M ρ).bind fun p32 =>
      (ρ.1 r3 1).bind fun j33 =>
      if ρ.2.1 j33 = 11 then
      some (.inl (p32 j33 5), p32, ρ)
      else none
      else none
    else none
def gX10_program (n : Nat) (r0 : Nat) (x1 : Int32) (M : ao_M) (ρ : ao_H) : Option ((Int32 ⊕ String) × ao_S) := fX10_program n 0 r0 x1 0 0 0 0 0 M ρ
set_option maxRecDepth 100000 in
set_option maxHeartbeats 4000000 in
theorem mX10_program : ∀ n : Nat, (∀ (r0 : Nat) (x1 : Int32) (M : ao_M) (ρ : ao_H) (y : (Int32 ⊕ String) × ao_S), fX10_program n 0 r0 x1 0 0 0 0 0 M ρ = some y → ao_le ρ y.2.2) ∧ (∀ (r0 : Nat) (x1 : Int32) (x2 : Int32) (M : ao_M) (ρ : ao_H) (y : (Int32 ⊕ String) × ao_S), fX10_program n 20 r0 x1 x2 0 0 0 0 M ρ = some y → ao_le ρ y.2.2) ∧ (∀ (r0 : Nat) (x1 : Int32) (x2 : Int32) (r3 : Nat) (s0 : Int32) (M : ao_M) (ρ : ao_H) (y : (Int32 ⊕ String) × ao_S), fX10_program n 70 r0 x1 x2 r3 0 s0 0 M ρ = some y → ao_le ρ y.2.2) ∧ (∀ (r0 : Nat) (x1 : Int32) (x2 : Int32) (r3 : Nat) (q0 : Nat) (q1 : Nat) (M : ao_M) (ρ : ao_H) (y : (Int32 ⊕ String) × ao_S), fX10_program n 110 r0 x1 x2 r3 q0 0 q1 M ρ = some y → ao_le ρ y.2.2) ∧ (∀ (r0 : Nat) (x1 : Int32) (x2 : Int32) (r3 : Nat) (M : ao_M) (ρ : ao_H) (y : (Int32 ⊕ String) × ao_S), fX10_program n 113 r0 x1 x2 r3 0 0 0 M ρ = some y → ao_le ρ y.2.2) := by
  intro n
  induction n with
  | zero => exact ⟨fun _ _ _ _ _ h => ao_no h, fun _ _ _ _ _ _ h => ao_no h, fun _ _ _ _ _ _ _ _ h => ao_no h, fun _ _ _ _ _ _ _ _ _ h => ao_no h, fun _ _ _ _ _ _ _ h => ao_no h⟩
  | succ n ih =>
    refine ⟨?_, ?_, ?_, ?_, ?_⟩
    · intro r0 x1 M ρ y h
      replace h := ao_ifT h rfl
      obtain ⟨-, h⟩ := ao_some h
      replace h := ao_letD h rfl
      generalize (M r0 4) = v2 at h
      replace h := ao_letD h rfl
      generalize (ao_u M r0 4 (0 : Int32)) = M3 at h
      rcases ao_ifC h with h | h
      · exact ih.2.1 r0 x1 v2 M3 ρ _ h
      · rcases ao_ifC h with h | h
        · obtain ⟨j6, hj6, h⟩ := ao_bind h
          obtain ⟨-, h⟩ := ao_some h
          obtain ⟨j8, hj8, h⟩ := ao_bind h
          obtain ⟨-, h⟩ := ao_some h
          obtain ⟨-, h⟩ := ao_some h
          obtain ⟨j11, hj11, h⟩ := ao_bind h
          obtain ⟨-, h⟩ := ao_some h
          rcases ao_ifC h with h | h
          · cases h
            exact ao_le_th _
          · obtain ⟨j14, hj14, h⟩ := ao_bind h
            obtain ⟨j15, hj15, h⟩ := ao_bind h
            obtain ⟨-, h⟩ := ao_some h
            obtain ⟨p17, hp17, h⟩ := ao_bind h
            exact ao_le_tr (me_X4_parse n j14 j15 v2 M3 ρ hp17) (ih.2.2.1 r0 x1 v2 j11 p17.1 p17.2.1 p17.2.2 _ h)
        · exact ih.2.1 r0 x1 v2 M3 ρ _ h
    · intro r0 x1 x2 M ρ y h
      replace h := ao_ifF h (by decide)
      replace h := ao_ifT h rfl
      cases h
      exact ao_le_th _
    · intro r0 x1 x2 r3 s0 M ρ y h
      replace h := ao_ifF h (by decide)
      replace h := ao_ifF h (by decide)
      replace h := ao_ifT h rfl
      rcases ao_ifC h with h | h
      · obtain ⟨-, h⟩ := ao_some h
        obtain ⟨j27, hj27, h⟩ := ao_bind h
        obtain ⟨-, h⟩ := ao_some h
        replace h := ao_letD h rfl
        generalize (ao_u M r0 5 (M j27 2)) = M29 at h
        cases h
        exact ao_le_th _
      · obtain ⟨-, h⟩ := ao_some h
        replace h := ao_letD h rfl
        generalize (ao_u M r0 5 (-1 : Int32)) = M20 at h
        obtain ⟨j21, hj21, h⟩ := ao_bind h
        obtain ⟨-, h⟩ := ao_some h
        obtain ⟨j23, hj23, h⟩ := ao_bind h
        obtain ⟨-, h⟩ := ao_some h
        obtain ⟨p25, hp25, h⟩ := ao_bind h
        exact ao_le_tr (me_X1_copy n j23 M20 ρ hp25) (ih.2.2.2.1 r0 x1 x2 r3 p25.1 r3 p25.2.1 p25.2.2 _ h)
    · intro r0 x1 x2 r3 q0 q1 M ρ y h
      replace h := ao_ifF h (by decide)
      replace h := ao_ifF h (by decide)
      replace h := ao_ifF h (by decide)
      replace h := ao_ifT h rfl
      obtain ⟨-, h⟩ := ao_some h
      exact ao_le_tr (ao_le_r _ _ _ _) (ih.2.2.2.2 r0 x1 x2 r3 M (ao_r ρ q1 1 (some q0)) _ h)
    · intro r0 x1 x2 r3 M ρ y h
      replace h := ao_ifF h (by decide)
      replace h := ao_ifF h (by decide)
      replace h := ao_ifF h (by decide)
      replace h := ao_ifF h (by decide)
      replace h := ao_ifT h rfl
      obtain ⟨-, h⟩ := ao_some h
      obtain ⟨p32, hp32, h⟩ := ao_bind h
      obtain ⟨j33, hj33, h⟩ := ao_bind h
      obtain ⟨-, h⟩ := ao_some h
      cases h
      exact ao_le_rf _
set_option maxRecDepth 100000 in
set_option maxHeartbeats 4000000 in
theorem wX10_program {Γ : ao_C} (d : Nat) (hd : 135 ≤ d) (MC MS : Nat) : ∀ n : Nat, (∀ (r0 : Nat) (x1 : Int32) (M : ao_M) (ρ : ao_H) (y : (Int32 ⊕ String) × ao_S), fX10_program n 0 r0 x1 0 0 0 0 0 M ρ = some y → ao_W Γ uX10_program (ao_rm d MC MS) (ao_Q Γ (ao_ZI y) MC MS) (ao_dc ρ y.2.2) (ao_ds ρ y.2.2) 0 [some (.ref (Γ.2.2.2 + r0)), some (.int x1), none, none] [] (M, ρ)) ∧ (∀ (r0 : Nat) (x1 : Int32) (x2 : Int32) (M : ao_M) (ρ : ao_H) (y : (Int32 ⊕ String) × ao_S), fX10_program n 20 r0 x1 x2 0 0 0 0 M ρ = some y → ao_W Γ uX10_program (ao_rm d MC MS) (ao_Q Γ (ao_ZI y) MC MS) (ao_dc ρ y.2.2) (ao_ds ρ y.2.2) 20 [some (.ref (Γ.2.2.2 + r0)), some (.int x1), some (.int x2), none] [] (M, ρ)) ∧ (∀ (r0 : Nat) (x1 : Int32) (x2 : Int32) (r3 : Nat) (s0 : Int32) (M : ao_M) (ρ : ao_H) (y : (Int32 ⊕ String) × ao_S), fX10_program n 70 r0 x1 x2 r3 0 s0 0 M ρ = some y → ao_W Γ uX10_program (ao_rm d MC MS) (ao_Q Γ (ao_ZI y) MC MS) (ao_dc ρ y.2.2) (ao_ds ρ y.2.2) 70 [some (.ref (Γ.2.2.2 + r0)), some (.int x1), some (.int x2), some (.ref (Γ.2.2.2 + r3))] [.int s0] (M, ρ)) ∧ (∀ (r0 : Nat) (x1 : Int32) (x2 : Int32) (r3 : Nat) (q0 : Nat) (q1 : Nat) (M : ao_M) (ρ : ao_H) (y : (Int32 ⊕ String) × ao_S), fX10_program n 110 r0 x1 x2 r3 q0 0 q1 M ρ = some y → ao_W Γ uX10_program (ao_rm d MC MS) (ao_Q Γ (ao_ZI y) MC MS) (ao_dc ρ y.2.2) (ao_ds ρ y.2.2) 110 [some (.ref (Γ.2.2.2 + r0)), some (.int x1), some (.int x2), some (.ref (Γ.2.2.2 + r3))] [.ref (Γ.2.2.2 + q0), .ref (Γ.2.2.2 + q1)] (M, ρ)) ∧ (∀ (r0 : Nat) (x1 : Int32) (x2 : Int32) (r3 : Nat) (M : ao_M) (ρ : ao_H) (y : (Int32 ⊕ String) × ao_S), fX10_program n 113 r0 x1 x2 r3 0 0 0 M ρ = some y → ao_W Γ uX10_program (ao_rm d MC MS) (ao_Q Γ (ao_ZI y) MC MS) (ao_dc ρ y.2.2) (ao_ds ρ y.2.2) 113 [some (.ref (Γ.2.2.2 + r0)), some (.int x1), some (.int x2), some (.ref (Γ.2.2.2 + r3))] [] (M, ρ)) := by
  intro n
  induction n with
  | zero => exact ⟨fun _ _ _ _ _ h => ao_no h, fun _ _ _ _ _ _ h => ao_no h, fun _ _ _ _ _ _ _ _ h => ao_no h, fun _ _ _ _ _ _ _ _ _ h => ao_no h, fun _ _ _ _ _ _ _ h => ao_no h⟩
  | succ n ih =>
    refine ⟨?_, ?_, ?_, ?_, ?_⟩
    · intro r0 x1 M ρ y h
      replace h := ao_ifT h rfl
      refine ao_aload_n 0 dX10_program_0 rfl rfl ?_
      obtain ⟨hk1, h⟩ := ao_some h
      refine an_getI r0 10 4 (q := (RX10, TX10, 6)) dX10_program_1 rfl hk1 (Nat.le_of_ble_eq_true rfl) rfl lf_X10_34 ?_
      refine an_topi (fun v2 hv2 => ?_)
      replace h := ao_letD h hv2
      refine ao_istore_n 2 (lo' := [some (.ref (Γ.2.2.2 + r0)), some (.int x1), some (.int v2), none]) dX10_program_4 rfl (Nat.le_of_ble_eq_true rfl) rfl ?_
      refine ao_aload_n 0 dX10_program_5 rfl rfl ?_
      refine ao_iconst (v := 0) dX10_program_6 (by decide) ?_
      refine an_putI r0 10 4 (q := (RX10, TX10, 6)) dX10_program_7 rfl hk1 (Nat.le_of_ble_eq_true rfl) lf_X10_34 rfl rfl rfl rfl (fun M3 hM3 => ?_)
      replace h := ao_letD h hM3
      refine ao_iload_n 1 dX10_program_10 rfl rfl ?_
      refine ao_if_lt 20 dX10_program_11 (by decide) (fun c4 => ?_) (fun c4 => ?_)
      · replace h := ao_ifT h c4
        exact ih.2.1 r0 x1 v2 M3 ρ _ h
      · replace h := ao_ifF h c4
        refine ao_iload_n 1 dX10_program_14 rfl rfl ?_
        refine ao_bipush (v := 6) dX10_program_15 (by decide) ?_
        refine ao_icmp_lt 30 dX10_program_17 (by decide) (fun c5 => ?_) (fun c5 => ?_)
        · replace h := ao_ifT h c5
          refine ao_aload_n 0 dX10_program_30 rfl rfl ?_
          obtain ⟨j6, hj6, h⟩ := ao_bind h
          refine an_getR r0 10 2 (q := (RX10, TX10, 6)) dX10_program_31 rfl hk1 (Nat.le_of_ble_eq_true rfl) rfl lf_X10_23 hj6 ?_
          obtain ⟨hk7, h⟩ := ao_some h
          obtain ⟨j8, hj8, h⟩ := ao_bind h
          refine an_getR j6 2 1 (q := (RX2, TX2, 7)) dX10_program_34 rfl hk7 (Nat.le_of_ble_eq_true rfl) rfl lf_X10_67 hj8 ?_
          refine ao_iload_n 1 dX10_program_37 rfl rfl ?_
          obtain ⟨hk9, h⟩ := ao_some h
          obtain ⟨hb10, h⟩ := ao_some h
          obtain ⟨j11, hj11, h⟩ := ao_bind h
          refine an_aaload j8 4 dX10_program_38 hk9 (by decide) hb10 hj11 ?_
          refine ao_astore_n 3 (lo' := [some (.ref (Γ.2.2.2 + r0)), some (.int x1), some (.int v2), some (.ref (Γ.2.2.2 + j11))]) dX10_program_39 rfl (Nat.le_of_ble_eq_true rfl) rfl ?_
          refine ao_aload_n 3 dX10_program_40 rfl rfl ?_
          obtain ⟨hk12, h⟩ := ao_some h
          refine an_getI j11 7 2 (q := (RX7, TX7, 20)) dX10_program_41 rfl hk12 (Nat.le_of_ble_eq_true rfl) rfl lf_X10_71 ?_
          refine ao_iconst (v := 2) dX10_program_44 (by decide) ?_
          refine ao_icmp_ne 58 dX10_program_45 (by decide) (fun c13 => ?_) (fun c13 => ?_)
          · replace h := ao_ifF h c13
            refine ao_aload_n 0 dX10_program_58 rfl rfl ?_
            obtain ⟨j14, hj14, h⟩ := ao_bind h
            refine an_getR r0 10 1 (q := (RX10, TX10, 6)) dX10_program_59 rfl hk1 (Nat.le_of_ble_eq_true rfl) rfl lf_X10_16 hj14 ?_
            refine ao_aload_n 0 dX10_program_62 rfl rfl ?_
            obtain ⟨j15, hj15, h⟩ := ao_bind h
            refine an_getR r0 10 0 (q := (RX10, TX10, 6)) dX10_program_63 rfl hk1 (Nat.le_of_ble_eq_true rfl) rfl lf_X10_9 hj15 ?_
            refine ao_iload_n 2 dX10_program_66 rfl rfl ?_
            obtain ⟨hk16, h⟩ := ao_some h
            obtain ⟨p17, hp17, h⟩ := ao_bind h
            refine ba_callVi j14 4 (q := (RX4, TX4, 3)) [.ref (Γ.2.2.2 + j15), .int v2] (aX4_parse (d - 1) (by omega) n j14 j15 v2 M3 ρ hp17) dX10_program_67 lc_X10_81 li_X4_parse ls_X4_parse rfl hk16 rfl rfl (Nat.le_of_ble_eq_true rfl) (ao_hR (by omega) (by decide)) (ao_leC (me_X4_parse n j14 j15 v2 M3 ρ hp17) ((mX10_program n).2.2.1 r0 x1 v2 j11 p17.1 p17.2.1 p17.2.2 _ h)) (ao_leS (me_X4_parse n j14 j15 v2 M3 ρ hp17) ((mX10_program n).2.2.1 r0 x1 v2 j11 p17.1 p17.2.1 p17.2.2 _ h)) ?_
            exact ih.2.2.1 r0 x1 v2 j11 p17.1 p17.2.1 p17.2.2 _ h
          · replace h := ao_ifT h c13
            cases h
            exact cx_throwS "java/lang/IllegalStateException" "the thread is within a block" ["java/lang/RuntimeException", "java/lang/Exception"] lth_X10_78 rfl dX10_program_48 dX10_program_51 dX10_program_52 dX10_program_54 dX10_program_57 (by omega) (Nat.le_of_ble_eq_true rfl) ao_thM ⟨rfl, rfl⟩
        · replace h := ao_ifF h c5
          exact ih.2.1 r0 x1 v2 M3 ρ _ h
    · intro r0 x1 x2 M ρ y h
      replace h := ao_ifF h (by decide)
      replace h := ao_ifT h rfl
      cases h
      exact cx_throwS "java/lang/IllegalArgumentException" "not a thread" ["java/lang/RuntimeException", "java/lang/Exception"] lth_X10_65 rfl dX10_program_20 dX10_program_23 dX10_program_24 dX10_program_26 dX10_program_29 (by omega) (Nat.le_of_ble_eq_true rfl) ao_thM ⟨rfl, rfl⟩
    · intro r0 x1 x2 r3 s0 M ρ y h
      replace h := ao_ifF h (by decide)
      replace h := ao_ifF h (by decide)
      replace h := ao_ifT h rfl
      refine ao_if_ne 94 dX10_program_70 (by decide) (fun c18 => ?_) (fun c18 => ?_)
      · replace h := ao_ifF h c18
        refine ao_aload_n 0 dX10_program_94 rfl rfl ?_
        refine ao_iconst (v := (-1)) dX10_program_95 (by decide) ?_
        obtain ⟨hk19, h⟩ := ao_some h
        refine an_putI r0 10 5 (q := (RX10, TX10, 6)) dX10_program_96 rfl hk19 (Nat.le_of_ble_eq_true rfl) lf_X10_38 rfl rfl rfl rfl (fun M20 hM20 => ?_)
        replace h := ao_letD h hM20
        refine ao_aload_n 3 dX10_program_99 rfl rfl ?_
        refine ao_aload_n 0 dX10_program_100 rfl rfl ?_
        obtain ⟨j21, hj21, h⟩ := ao_bind h
        refine an_getR r0 10 1 (q := (RX10, TX10, 6)) dX10_program_101 rfl hk19 (Nat.le_of_ble_eq_true rfl) rfl lf_X10_16 hj21 ?_
        obtain ⟨hk22, h⟩ := ao_some h
        obtain ⟨j23, hj23, h⟩ := ao_bind h
        refine an_getR j21 4 1 (q := (RX4, TX4, 3)) dX10_program_104 rfl hk22 (Nat.le_of_ble_eq_true rfl) rfl lf_X10_91 hj23 ?_
        obtain ⟨hk24, h⟩ := ao_some h
        obtain ⟨p25, hp25, h⟩ := ao_bind h
        refine ba_callVr j23 1 (q := (RX1, TX1, 6)) [] (aX1_copy (d - 1) (by omega) n j23 M20 ρ hp25) dX10_program_107 lc_X10_95 li_X1_copy ls_X1_copy rfl hk24 rfl rfl (Nat.le_of_ble_eq_true rfl) (ao_hR (by omega) (by decide)) (ao_leC (me_X1_copy n j23 M20 ρ hp25) ((mX10_program n).2.2.2.1 r0 x1 x2 r3 p25.1 r3 p25.2.1 p25.2.2 _ h)) (ao_leS (me_X1_copy n j23 M20 ρ hp25) ((mX10_program n).2.2.2.1 r0 x1 x2 r3 p25.1 r3 p25.2.1 p25.2.2 _ h)) ?_
        exact ih.2.2.2.1 r0 x1 x2 r3 p25.1 r3 p25.2.1 p25.2.2 _ h
      · replace h := ao_ifT h c18
        refine ao_aload_n 0 dX10_program_73 rfl rfl ?_
        refine ao_aload_n 0 dX10_program_74 rfl rfl ?_
        obtain ⟨hk26, h⟩ := ao_some h
        obtain ⟨j27, hj27, h⟩ := ao_bind h
        refine an_getR r0 10 1 (q := (RX10, TX10, 6)) dX10_program_75 rfl hk26 (Nat.le_of_ble_eq_true rfl) rfl lf_X10_16 hj27 ?_
        obtain ⟨hk28, h⟩ := ao_some h
        refine an_getI j27 4 2 (q := (RX4, TX4, 3)) dX10_program_78 rfl hk28 (Nat.le_of_ble_eq_true rfl) rfl lf_X10_85 ?_
        refine an_putI r0 10 5 (q := (RX10, TX10, 6)) dX10_program_81 rfl hk26 (Nat.le_of_ble_eq_true rfl) lf_X10_38 rfl rfl rfl rfl (fun M29 hM29 => ?_)
        replace h := ao_letD h hM29
        cases h
        exact cx_throwS "java/lang/UnsupportedOperationException" "the text is broken" ["java/lang/RuntimeException", "java/lang/Exception"] lth_X10_88 rfl dX10_program_84 dX10_program_87 dX10_program_88 dX10_program_90 dX10_program_93 (by omega) (Nat.le_of_ble_eq_true rfl) ao_thM ⟨rfl, rfl⟩
    · intro r0 x1 x2 r3 q0 q1 M ρ y h
      replace h := ao_ifF h (by decide)
      replace h := ao_ifF h (by decide)
      replace h := ao_ifF h (by decide)
      replace h := ao_ifT h rfl
      obtain ⟨hk30, h⟩ := ao_some h
      refine ba_putR q1 7 1 (q := (RX7, TX7, 20)) dX10_program_110 rfl hk30 (Nat.le_of_ble_eq_true rfl) lf_X10_101 (Or.inl rfl) rfl rfl rfl ?_
      exact ih.2.2.2.2 r0 x1 x2 r3 M (ao_r ρ q1 1 (some q0)) _ h
    · intro r0 x1 x2 r3 M ρ y h
      replace h := ao_ifF h (by decide)
      replace h := ao_ifF h (by decide)
      replace h := ao_ifF h (by decide)
      replace h := ao_ifF h (by decide)
      replace h := ao_ifT h rfl
      refine ao_aload_n 3 dX10_program_113 rfl rfl ?_
      obtain ⟨hk31, h⟩ := ao_some h
      obtain ⟨p32, hp32, h⟩ := ao_bind h
      refine an_callVv r3 7 (q := (RX7, TX7, 20)) [] (aX7_renew (d - 1) (by omega) _ r3 M ρ hp32) dX10_program_114 lc_X10_102 li_X7_renew ls_X7_renew rfl hk31 rfl rfl (Nat.le_of_ble_eq_true rfl) (ao_hR (by omega) (by decide)) ?_
      refine ao_aload_n 3 dX10_program_117 rfl rfl ?_
      obtain ⟨j33, hj33, h⟩ := ao_bind h
      refine an_getR r3 7 1 (q := (RX7, TX7, 20)) dX10_program_118 rfl hk31 (Nat.le_of_ble_eq_true rfl) rfl lf_X10_101 hj33 ?_
      obtain ⟨hk34, h⟩ := ao_some h
      refine an_getI j33 1 5 (q := (RX1, TX1, 6)) dX10_program_121 rfl hk34 (Nat.le_of_ble_eq_true rfl) rfl lf_X10_105 ?_
      cases h
      exact ao_ireturn dX10_program_124 rfl rfl ⟨rfl, rfl⟩
theorem me_X10_program (n : Nat) (r0 : Nat) (x1 : Int32) (M : ao_M) (ρ : ao_H) {y : (Int32 ⊕ String) × ao_S} (h : gX10_program n r0 x1 M ρ = some y) : ao_le ρ y.2.2 := (mX10_program n).1 r0 x1 M ρ y h
set_option maxRecDepth 100000 in
set_option maxHeartbeats 4000000 in
theorem aX10_program {Γ : ao_C} (d : Nat) (hd : 135 ≤ d) (n : Nat) (r0 : Nat) (x1 : Int32) (M : ao_M) (ρ : ao_H) {y : (Int32 ⊕ String) × ao_S} (h : gX10_program n r0 x1 M ρ = some y) : ao_A Γ uX10_program d (ao_dc ρ y.2.2) (ao_ds ρ y.2.2) [.ref (Γ.2.2.2 + r0), .int x1] (M, ρ) (ao_ZI y) := by
  refine ao_of (by decide) (ao_cat1 (Nat.le_of_ble_eq_true rfl)) (Nat.le_of_ble_eq_true rfl) ?_
  show ao_W Γ uX10_program (ao_rm d (ao_dc ρ y.2.2) (ao_ds ρ y.2.2)) (ao_Q Γ (ao_ZI y) (ao_dc ρ y.2.2) (ao_ds ρ y.2.2)) (ao_dc ρ y.2.2) (ao_ds ρ y.2.2) 0 [some (.ref (Γ.2.2.2 + r0)), some (.int x1), none, none] [] (M, ρ)
  exact (wX10_program d hd _ _ n).1 r0 x1 M ρ y h

abbrev uL_program : ao_Mi := (yL_program, cL_program, 4, (some .int), [(0, 9, 12, 19), (0, 9, 15, 28), (0, 9, 18, 30)])
def fL_program : Nat → Nat → Nat → Int32 → Nat → Int32 → Int32 → Nat →  ao_M → ao_H → Option (Int32 × ao_S)
  | 0, _, _, _, _, _, _, _, _, _ => none
  | n + 1, pc, r0, x1, r2, s0, s1, q2, M, ρ =>
    if pc = 0 then
      if ρ.2.1 r0 = 20 then
      (gX10_program n r0 x1 M ρ).bind fun p2 =>
      ao_cs p2.1 (fun wx3 => fL_program n 7 r0 x1 r2 wx3 (0 : Int32) r2 p2.2.1 p2.2.2) fun E5 =>
        if E5 = "java/lang/IllegalArgumentException" then
          some ((1 : Int32), p2.2.1, p2.2.2)
        else
        if E5 = "java/lang/IllegalStateException" then
          some ((2 : Int32), p2.2.1, p2.2.2)
        else
        if E5 = "java/lang/UnsupportedOperationException" then
          some ((3 : Int32), p2.2.1, p2.2.2)
        else
        none
      else none
    else if pc = 7 then
      if ρ.2.1 q2 = 3 then
      if ¬ (s1 < 0 ∨ ρ.2.2.1 q2 ≤ s1.toNatClampNeg) then
      ao_let (ao_u M q2 s1.toNatClampNeg s0) fun M11 =>
      some ((0 : Int32), M11, ρ)
      else none
      else none
    else none
def gL_program (n : Nat) (r0 : Nat) (x1 : Int32) (r2 : Nat) (M : ao_M) (ρ : ao_H) : Option (Int32 × ao_S) := fL_program n 0 r0 x1 r2 0 0 0 M ρ
set_option maxRecDepth 100000 in
set_option maxHeartbeats 4000000 in
theorem mL_program : ∀ n : Nat, (∀ (r0 : Nat) (x1 : Int32) (r2 : Nat) (M : ao_M) (ρ : ao_H) (y : Int32 × ao_S), fL_program n 0 r0 x1 r2 0 0 0 M ρ = some y → ao_le ρ y.2.2) ∧ (∀ (r0 : Nat) (x1 : Int32) (r2 : Nat) (s0 : Int32) (s1 : Int32) (q2 : Nat) (M : ao_M) (ρ : ao_H) (y : Int32 × ao_S), fL_program n 7 r0 x1 r2 s0 s1 q2 M ρ = some y → ao_le ρ y.2.2) := by
  intro n
  induction n with
  | zero => exact ⟨fun _ _ _ _ _ _ h => ao_no h, fun _ _ _ _ _ _ _ _ _ h => ao_no h⟩
  | succ n ih =>
    refine ⟨?_, ?_⟩
    · intro r0 x1 r2 M ρ y h
      replace h := ao_ifT h rfl
      obtain ⟨-, h⟩ := ao_some h
      obtain ⟨p2, hp2, h⟩ := ao_bind h
      refine ao_le_tr (me_X10_program n r0 x1 M ρ hp2) ?_
      refine ao_csM h (fun wx3 h => ?_) (fun _ h => ?_)
      · exact ih.2 r0 x1 r2 wx3 (0 : Int32) r2 p2.2.1 p2.2.2 _ h
      · rcases ao_ifC h with h | h
        · cases h
          exact ao_le_rf _
        · rcases ao_ifC h with h | h
          · cases h
            exact ao_le_rf _
          · rcases ao_ifC h with h | h
            · cases h
              exact ao_le_rf _
            · exact ao_no h
    · intro r0 x1 r2 s0 s1 q2 M ρ y h
      replace h := ao_ifF h (by decide)
      replace h := ao_ifT h rfl
      obtain ⟨-, h⟩ := ao_some h
      obtain ⟨-, h⟩ := ao_some h
      replace h := ao_letD h rfl
      generalize (ao_u M q2 s1.toNatClampNeg s0) = M11 at h
      cases h
      exact ao_le_rf _
set_option maxRecDepth 100000 in
set_option maxHeartbeats 4000000 in
theorem wL_program {Γ : ao_C} (d : Nat) (hd : 136 ≤ d) (MC MS : Nat) : ∀ n : Nat, (∀ (r0 : Nat) (x1 : Int32) (r2 : Nat) (M : ao_M) (ρ : ao_H) (y : Int32 × ao_S), fL_program n 0 r0 x1 r2 0 0 0 M ρ = some y → ao_W Γ uL_program (ao_rm d MC MS) (ao_Q Γ (ao_QI y) MC MS) (ao_dc ρ y.2.2) (ao_ds ρ y.2.2) 0 [some (.ref (Γ.2.2.2 + r0)), some (.int x1), some (.ref (Γ.2.2.2 + r2)), none] [] (M, ρ)) ∧ (∀ (r0 : Nat) (x1 : Int32) (r2 : Nat) (s0 : Int32) (s1 : Int32) (q2 : Nat) (M : ao_M) (ρ : ao_H) (y : Int32 × ao_S), fL_program n 7 r0 x1 r2 s0 s1 q2 M ρ = some y → ao_W Γ uL_program (ao_rm d MC MS) (ao_Q Γ (ao_QI y) MC MS) (ao_dc ρ y.2.2) (ao_ds ρ y.2.2) 7 [some (.ref (Γ.2.2.2 + r0)), some (.int x1), some (.ref (Γ.2.2.2 + r2)), none] [.int s0, .int s1, .ref (Γ.2.2.2 + q2)] (M, ρ)) := by
  intro n
  induction n with
  | zero => exact ⟨fun _ _ _ _ _ _ h => ao_no h, fun _ _ _ _ _ _ _ _ _ h => ao_no h⟩
  | succ n ih =>
    refine ⟨?_, ?_⟩
    · intro r0 x1 r2 M ρ y h
      replace h := ao_ifT h rfl
      refine ao_aload_n 2 dL_program_0 rfl rfl ?_
      refine ao_iconst (v := 0) dL_program_1 (by decide) ?_
      refine ao_aload_n 0 dL_program_2 rfl rfl ?_
      refine ao_iload_n 1 dL_program_3 rfl rfl ?_
      obtain ⟨hk1, h⟩ := ao_some h
      obtain ⟨p2, hp2, h⟩ := ao_bind h
      have e9 : ao_le p2.2.2 y.2.2 := by
        refine ao_csM h (fun wx3 h => (mL_program n).2 r0 x1 r2 wx3 (0 : Int32) r2 p2.2.1 p2.2.2 _ h) (fun _ h => ?_)
        rcases ao_ifC h with h | h
        · cases h
          exact ao_le_rf _
        · rcases ao_ifC h with h | h
          · cases h
            exact ao_le_rf _
          · rcases ao_ifC h with h | h
            · cases h
              exact ao_le_rf _
            · exact ao_no h
      refine cx_callVi r0 10 (q := (RX10, TX10, 6)) [.int x1] (aX10_program (d - 1) (by omega) n r0 x1 M ρ hp2) dL_program_4 lc_L_25 li_X10_program ls_X10_program rfl hk1 rfl rfl (Nat.le_of_ble_eq_true rfl) (ao_hR (by omega) (by decide)) (ao_leC (me_X10_program n r0 x1 M ρ hp2) e9) (ao_leS (me_X10_program n r0 x1 M ρ hp2) e9) (fun wx3 e4 => ?_) (fun E5 e4 => ?_)
      · replace h := ao_csL h e4
        exact ih.2 r0 x1 r2 wx3 (0 : Int32) r2 p2.2.1 p2.2.2 _ h
      · replace h := ao_csR h e4
        by_cases c6 : E5 = "java/lang/IllegalArgumentException"
        · subst c6
          replace h := ao_ifT h rfl
          refine cx_catch "java/lang/IllegalArgumentException" [] (⟨0, 9, 12, 19⟩ : ExceptionTableEntry) [(⟨0, 9, 15, 28⟩ : ExceptionTableEntry), (⟨0, 9, 18, 30⟩ : ExceptionTableEntry)] rfl (fun z hz => nomatch hz) (by decide) (by decide) lcl_L_19 (by decide +kernel) (fun a9 => ?_)
          refine ao_astore_n 3 (lo' := [some (.ref (Γ.2.2.2 + r0)), some (.int x1), some (.ref (Γ.2.2.2 + r2)), some (.ref a9)]) dL_program_12 rfl (Nat.le_of_ble_eq_true rfl) rfl ?_
          refine ao_iconst (v := 1) dL_program_13 (by decide) ?_
          cases h
          exact ao_ireturn dL_program_14 rfl rfl ⟨rfl, rfl⟩
        · replace h := ao_ifF h c6
          by_cases c7 : E5 = "java/lang/IllegalStateException"
          · subst c7
            replace h := ao_ifT h rfl
            refine cx_catch "java/lang/IllegalStateException" [(⟨0, 9, 12, 19⟩ : ExceptionTableEntry)] (⟨0, 9, 15, 28⟩ : ExceptionTableEntry) [(⟨0, 9, 18, 30⟩ : ExceptionTableEntry)] rfl (by intro z hz; simp only [List.mem_cons, List.mem_nil_iff, or_false] at hz; rcases hz with rfl <;> first | exact Or.inr ⟨by decide, _, lcl_L_19, by decide⟩) (by decide) (by decide) lcl_L_28 (by decide +kernel) (fun a9 => ?_)
            refine ao_astore_n 3 (lo' := [some (.ref (Γ.2.2.2 + r0)), some (.int x1), some (.ref (Γ.2.2.2 + r2)), some (.ref a9)]) dL_program_15 rfl (Nat.le_of_ble_eq_true rfl) rfl ?_
            refine ao_iconst (v := 2) dL_program_16 (by decide) ?_
            cases h
            exact ao_ireturn dL_program_17 rfl rfl ⟨rfl, rfl⟩
          · replace h := ao_ifF h c7
            by_cases c8 : E5 = "java/lang/UnsupportedOperationException"
            · subst c8
              replace h := ao_ifT h rfl
              refine cx_catch "java/lang/UnsupportedOperationException" [(⟨0, 9, 12, 19⟩ : ExceptionTableEntry), (⟨0, 9, 15, 28⟩ : ExceptionTableEntry)] (⟨0, 9, 18, 30⟩ : ExceptionTableEntry) [] rfl (by intro z hz; simp only [List.mem_cons, List.mem_nil_iff, or_false] at hz; rcases hz with rfl | rfl <;> first | exact Or.inr ⟨by decide, _, lcl_L_19, by decide⟩ | exact Or.inr ⟨by decide, _, lcl_L_28, by decide⟩) (by decide) (by decide) lcl_L_30 (by decide +kernel) (fun a9 => ?_)
              refine ao_astore_n 3 (lo' := [some (.ref (Γ.2.2.2 + r0)), some (.int x1), some (.ref (Γ.2.2.2 + r2)), some (.ref a9)]) dL_program_18 rfl (Nat.le_of_ble_eq_true rfl) rfl ?_
              refine ao_iconst (v := 3) dL_program_19 (by decide) ?_
              cases h
              exact ao_ireturn dL_program_20 rfl rfl ⟨rfl, rfl⟩
            · replace h := ao_ifF h c8
              exact ao_no h
    · intro r0 x1 r2 s0 s1 q2 M ρ y h
      replace h := ao_ifF h (by decide)
      replace h := ao_ifT h rfl
      refine ao_i2l dL_program_7 ?_
      obtain ⟨hk9, h⟩ := ao_some h
      obtain ⟨hb10, h⟩ := ao_some h
      refine an_lastore q2 dL_program_8 hk9 hb10 (fun M11 hM11 => ?_)
      replace h := ao_letD h hM11
      refine ao_goto 21 dL_program_9 (by decide) ?_
      refine ao_iconst (v := 0) dL_program_21 (by decide) ?_
      cases h
      exact ao_ireturn dL_program_22 rfl rfl ⟨rfl, rfl⟩
theorem me_L_program (n : Nat) (r0 : Nat) (x1 : Int32) (r2 : Nat) (M : ao_M) (ρ : ao_H) {y : Int32 × ao_S} (h : gL_program n r0 x1 r2 M ρ = some y) : ao_le ρ y.2.2 := (mL_program n).1 r0 x1 r2 M ρ y h
set_option maxRecDepth 100000 in
set_option maxHeartbeats 4000000 in
theorem aL_program {Γ : ao_C} (d : Nat) (hd : 136 ≤ d) (n : Nat) (r0 : Nat) (x1 : Int32) (r2 : Nat) (M : ao_M) (ρ : ao_H) {y : Int32 × ao_S} (h : gL_program n r0 x1 r2 M ρ = some y) : ao_A Γ uL_program d (ao_dc ρ y.2.2) (ao_ds ρ y.2.2) [.ref (Γ.2.2.2 + r0), .int x1, .ref (Γ.2.2.2 + r2)] (M, ρ) (ao_QI y) := by
  refine ao_ofH (by decide) rfl (ao_cat1 (Nat.le_of_ble_eq_true rfl)) (Nat.le_of_ble_eq_true rfl) ?_
  show ao_W Γ uL_program (ao_rm d (ao_dc ρ y.2.2) (ao_ds ρ y.2.2)) (ao_Q Γ (ao_QI y) (ao_dc ρ y.2.2) (ao_ds ρ y.2.2)) (ao_dc ρ y.2.2) (ao_ds ρ y.2.2) 0 [some (.ref (Γ.2.2.2 + r0)), some (.int x1), some (.ref (Γ.2.2.2 + r2)), none] [] (M, ρ)
  exact (wL_program d hd _ _ n).1 r0 x1 r2 M ρ y h

abbrev uX2_takeTurn : ao_Mi := (yX2_takeTurn, cX2_takeTurn, 4, (some .int), [])
def fX2_takeTurn : Nat → Nat → Nat → Nat → Int32 → Int32 →  ao_M → ao_H → Option (Int32 × ao_S)
  | 0, _, _, _, _, _, _, _ => none
  | n + 1, pc, r0, r1, x2, s0, M, ρ =>
    if pc = 0 then
      if ρ.2.1 r0 = 12 then
      ao_let (ao_u M r0 6 (M r0 4)) fun M2 =>
      ao_let (ao_u M2 r0 4 ((M2 r0 4) + (1 : Int32))) fun M3 =>
      if ρ.2.1 r1 = 17 then
      if (M3 r1 2) = (3 : Int32) then
        (gX2_stir n r0 r1 M3 ρ).bind fun p9 =>
        fX2_takeTurn n 31 r0 r1 0 p9.1 p9.2.1 p9.2.2
      else
        (gX7_isLeft n r1 M3 ρ).bind fun p6 =>
        if p6.1 = 0 then
          if (p6.2 r1 2) = (5 : Int32) then
            some ((5 : Int32), p6.2, ρ)
          else
            some ((2 : Int32), p6.2, ρ)
        else
          fX2_takeTurn n 55 r0 r1 (0 : Int32) 0 p6.2 ρ
      else none
      else none
    else if pc = 31 then
      some (s0, M, ρ)
    else if pc = 55 then
      if (1000000 : Int32) ≤ x2 then
        some ((0 : Int32), M, ρ)
      else
        if ρ.2.1 r0 = 12 then
        (gX2_step n r0 r1 M ρ).bind fun p12 =>
        fX2_takeTurn n 66 r0 r1 x2 p12.1 p12.2.1 p12.2.2
        else none
    else if pc = 66 then
      if s0 = (-1 : Int32) then
        ao_let (x2 + (1 : Int32)) fun v14 =>
        fX2_takeTurn n 55 r0 r1 v14 0 M ρ
      else
        some (s0, M, ρ)
    else none
def gX2_takeTurn (n : Nat) (r0 : Nat) (r1 : Nat) (M : ao_M) (ρ : ao_H) : Option (Int32 × ao_S) := fX2_takeTurn n 0 r0 r1 0 0 M ρ
set_option maxRecDepth 100000 in
set_option maxHeartbeats 4000000 in
theorem mX2_takeTurn : ∀ n : Nat, (∀ (r0 : Nat) (r1 : Nat) (M : ao_M) (ρ : ao_H) (y : Int32 × ao_S), fX2_takeTurn n 0 r0 r1 0 0 M ρ = some y → ao_le ρ y.2.2) ∧ (∀ (r0 : Nat) (r1 : Nat) (s0 : Int32) (M : ao_M) (ρ : ao_H) (y : Int32 × ao_S), fX2_takeTurn n 31 r0 r1 0 s0 M ρ = some y → ao_le ρ y.2.2) ∧ (∀ (r0 : Nat) (r1 : Nat) (x2 : Int32) (M : ao_M) (ρ : ao_H) (y : Int32 × ao_S), fX2_takeTurn n 55 r0 r1 x2 0 M ρ = some y → ao_le ρ y.2.2) ∧ (∀ (r0 : Nat) (r1 : Nat) (x2 : Int32) (s0 : Int32) (M : ao_M) (ρ : ao_H) (y : Int32 × ao_S), fX2_takeTurn n 66 r0 r1 x2 s0 M ρ = some y → ao_le ρ y.2.2) := by
  intro n
  induction n with
  | zero => exact ⟨fun _ _ _ _ _ h => ao_no h, fun _ _ _ _ _ _ h => ao_no h, fun _ _ _ _ _ _ h => ao_no h, fun _ _ _ _ _ _ _ h => ao_no h⟩
  | succ n ih =>
    refine ⟨?_, ?_, ?_, ?_⟩
    · intro r0 r1 M ρ y h
      replace h := ao_ifT h rfl
      obtain ⟨-, h⟩ := ao_some h
      replace h := ao_letD h rfl
      generalize (ao_u M r0 6 (M r0 4)) = M2 at h
      replace h := ao_letD h rfl
      generalize (ao_u M2 r0 4 ((M2 r0 4) + (1 : Int32))) = M3 at h
      obtain ⟨-, h⟩ := ao_some h
      rcases ao_ifC h with h | h
      · obtain ⟨p9, hp9, h⟩ := ao_bind h
        exact ao_le_tr (me_X2_stir n r0 r1 M3 ρ hp9) (ih.2.1 r0 r1 p9.1 p9.2.1 p9.2.2 _ h)
      · obtain ⟨p6, hp6, h⟩ := ao_bind h
        rcases ao_ifC h with h | h
        · rcases ao_ifC h with h | h
          · cases h
            exact ao_le_rf _
          · cases h
            exact ao_le_rf _
        · exact ih.2.2.1 r0 r1 (0 : Int32) p6.2 ρ _ h
    · intro r0 r1 s0 M ρ y h
      replace h := ao_ifF h (by decide)
      replace h := ao_ifT h rfl
      cases h
      exact ao_le_rf _
    · intro r0 r1 x2 M ρ y h
      replace h := ao_ifF h (by decide)
      replace h := ao_ifF h (by decide)
      replace h := ao_ifT h rfl
      rcases ao_ifC h with h | h
      · cases h
        exact ao_le_rf _
      · obtain ⟨-, h⟩ := ao_some h
        obtain ⟨p12, hp12, h⟩ := ao_bind h
        exact ao_le_tr (me_X2_step n r0 r1 M ρ hp12) (ih.2.2.2 r0 r1 x2 p12.1 p12.2.1 p12.2.2 _ h)
    · intro r0 r1 x2 s0 M ρ y h
      replace h := ao_ifF h (by decide)
      replace h := ao_ifF h (by decide)
      replace h := ao_ifF h (by decide)
      replace h := ao_ifT h rfl
      rcases ao_ifC h with h | h
      · replace h := ao_letD h rfl
        generalize (x2 + (1 : Int32)) = v14 at h
        exact ih.2.2.1 r0 r1 v14 M ρ _ h
      · cases h
        exact ao_le_rf _
set_option maxRecDepth 100000 in
set_option maxHeartbeats 4000000 in
theorem wX2_takeTurn {Γ : ao_C} (d : Nat) (hd : 8 ≤ d) (MC MS : Nat) : ∀ n : Nat, (∀ (r0 : Nat) (r1 : Nat) (M : ao_M) (ρ : ao_H) (y : Int32 × ao_S), fX2_takeTurn n 0 r0 r1 0 0 M ρ = some y → ao_W Γ uX2_takeTurn (ao_rm d MC MS) (ao_Q Γ (ao_QI y) MC MS) (ao_dc ρ y.2.2) (ao_ds ρ y.2.2) 0 [some (.ref (Γ.2.2.2 + r0)), some (.ref (Γ.2.2.2 + r1)), none, none] [] (M, ρ)) ∧ (∀ (r0 : Nat) (r1 : Nat) (s0 : Int32) (M : ao_M) (ρ : ao_H) (y : Int32 × ao_S), fX2_takeTurn n 31 r0 r1 0 s0 M ρ = some y → ao_W Γ uX2_takeTurn (ao_rm d MC MS) (ao_Q Γ (ao_QI y) MC MS) (ao_dc ρ y.2.2) (ao_ds ρ y.2.2) 31 [some (.ref (Γ.2.2.2 + r0)), some (.ref (Γ.2.2.2 + r1)), none, none] [.int s0] (M, ρ)) ∧ (∀ (r0 : Nat) (r1 : Nat) (x2 : Int32) (M : ao_M) (ρ : ao_H) (y : Int32 × ao_S), fX2_takeTurn n 55 r0 r1 x2 0 M ρ = some y → ao_W Γ uX2_takeTurn (ao_rm d MC MS) (ao_Q Γ (ao_QI y) MC MS) (ao_dc ρ y.2.2) (ao_ds ρ y.2.2) 55 [some (.ref (Γ.2.2.2 + r0)), some (.ref (Γ.2.2.2 + r1)), some (.int x2), none] [] (M, ρ)) ∧ (∀ (r0 : Nat) (r1 : Nat) (x2 : Int32) (s0 : Int32) (M : ao_M) (ρ : ao_H) (y : Int32 × ao_S), fX2_takeTurn n 66 r0 r1 x2 s0 M ρ = some y → ao_W Γ uX2_takeTurn (ao_rm d MC MS) (ao_Q Γ (ao_QI y) MC MS) (ao_dc ρ y.2.2) (ao_ds ρ y.2.2) 66 [some (.ref (Γ.2.2.2 + r0)), some (.ref (Γ.2.2.2 + r1)), some (.int x2), none] [.int s0] (M, ρ)) := by
  intro n
  induction n with
  | zero => exact ⟨fun _ _ _ _ _ h => ao_no h, fun _ _ _ _ _ _ h => ao_no h, fun _ _ _ _ _ _ h => ao_no h, fun _ _ _ _ _ _ _ h => ao_no h⟩
  | succ n ih =>
    refine ⟨?_, ?_, ?_, ?_⟩
    · intro r0 r1 M ρ y h
      replace h := ao_ifT h rfl
      refine ao_aload_n 0 dX2_takeTurn_0 rfl rfl ?_
      refine ao_aload_n 0 dX2_takeTurn_1 rfl rfl ?_
      obtain ⟨hk1, h⟩ := ao_some h
      refine an_getI r0 2 4 (q := (RX2, TX2, 7)) dX2_takeTurn_2 rfl hk1 (Nat.le_of_ble_eq_true rfl) rfl lf_X2_45 ?_
      refine an_putI r0 2 6 (q := (RX2, TX2, 7)) dX2_takeTurn_5 rfl hk1 (Nat.le_of_ble_eq_true rfl) lf_X2_77 rfl rfl rfl rfl (fun M2 hM2 => ?_)
      replace h := ao_letD h hM2
      refine ao_aload_n 0 dX2_takeTurn_8 rfl rfl ?_
      refine ao_dup dX2_takeTurn_9 rfl ?_
      refine an_getI r0 2 4 (q := (RX2, TX2, 7)) dX2_takeTurn_10 rfl hk1 (Nat.le_of_ble_eq_true rfl) rfl lf_X2_45 ?_
      refine ao_iconst (v := 1) dX2_takeTurn_13 (by decide) ?_
      refine ao_iadd dX2_takeTurn_14 ?_
      refine an_putI r0 2 4 (q := (RX2, TX2, 7)) dX2_takeTurn_15 rfl hk1 (Nat.le_of_ble_eq_true rfl) lf_X2_45 rfl rfl rfl rfl (fun M3 hM3 => ?_)
      replace h := ao_letD h hM3
      refine ao_aload_n 1 dX2_takeTurn_18 rfl rfl ?_
      obtain ⟨hk4, h⟩ := ao_some h
      refine an_getI r1 7 2 (q := (RX7, TX7, 20)) dX2_takeTurn_19 rfl hk4 (Nat.le_of_ble_eq_true rfl) rfl lf_X2_55 ?_
      refine ao_iconst (v := 3) dX2_takeTurn_22 (by decide) ?_
      refine ao_icmp_ne 32 dX2_takeTurn_23 (by decide) (fun c5 => ?_) (fun c5 => ?_)
      · replace h := ao_ifF h c5
        refine ao_aload_n 1 dX2_takeTurn_32 rfl rfl ?_
        obtain ⟨p6, hp6, h⟩ := ao_bind h
        refine an_callVi r1 7 (q := (RX7, TX7, 20)) [] (aX7_isLeft (d - 1) (by omega) _ r1 M3 ρ hp6) dX2_takeTurn_33 lc_X2_73 li_X7_isLeft ls_X7_isLeft rfl hk4 rfl rfl (Nat.le_of_ble_eq_true rfl) (ao_hR (by omega) (by decide)) ?_
        refine ao_if_ne 53 dX2_takeTurn_36 (by decide) (fun c7 => ?_) (fun c7 => ?_)
        · replace h := ao_ifF h c7
          refine ao_iconst (v := 0) dX2_takeTurn_53 (by decide) ?_
          refine ao_istore_n 2 (lo' := [some (.ref (Γ.2.2.2 + r0)), some (.ref (Γ.2.2.2 + r1)), some (.int (0 : Int32)), none]) dX2_takeTurn_54 rfl (Nat.le_of_ble_eq_true rfl) rfl ?_
          exact ih.2.2.1 r0 r1 (0 : Int32) p6.2 ρ _ h
        · replace h := ao_ifT h c7
          refine ao_aload_n 1 dX2_takeTurn_39 rfl rfl ?_
          refine an_getI r1 7 2 (q := (RX7, TX7, 20)) dX2_takeTurn_40 rfl hk4 (Nat.le_of_ble_eq_true rfl) rfl lf_X2_55 ?_
          refine ao_iconst (v := 5) dX2_takeTurn_43 (by decide) ?_
          refine ao_icmp_ne 51 dX2_takeTurn_44 (by decide) (fun c8 => ?_) (fun c8 => ?_)
          · replace h := ao_ifF h c8
            refine ao_iconst (v := 2) dX2_takeTurn_51 (by decide) ?_
            cases h
            exact ao_ireturn dX2_takeTurn_52 rfl rfl ⟨rfl, rfl⟩
          · replace h := ao_ifT h c8
            refine ao_iconst (v := 5) dX2_takeTurn_47 (by decide) ?_
            refine ao_goto 52 dX2_takeTurn_48 (by decide) ?_
            cases h
            exact ao_ireturn dX2_takeTurn_52 rfl rfl ⟨rfl, rfl⟩
      · replace h := ao_ifT h c5
        refine ao_aload_n 0 dX2_takeTurn_26 rfl rfl ?_
        refine ao_aload_n 1 dX2_takeTurn_27 rfl rfl ?_
        obtain ⟨p9, hp9, h⟩ := ao_bind h
        refine ba_callVi r0 2 (q := (RX2, TX2, 7)) [.ref (Γ.2.2.2 + r1)] (aX2_stir (d - 1) (by omega) n r0 r1 M3 ρ hp9) dX2_takeTurn_28 lc_X2_80 li_X2_stir ls_X2_stir rfl hk1 rfl rfl (Nat.le_of_ble_eq_true rfl) (ao_hR (by omega) (by decide)) (ao_leC (me_X2_stir n r0 r1 M3 ρ hp9) ((mX2_takeTurn n).2.1 r0 r1 p9.1 p9.2.1 p9.2.2 _ h)) (ao_leS (me_X2_stir n r0 r1 M3 ρ hp9) ((mX2_takeTurn n).2.1 r0 r1 p9.1 p9.2.1 p9.2.2 _ h)) ?_
        exact ih.2.1 r0 r1 p9.1 p9.2.1 p9.2.2 _ h
    · intro r0 r1 s0 M ρ y h
      replace h := ao_ifF h (by decide)
      replace h := ao_ifT h rfl
      cases h
      exact ao_ireturn dX2_takeTurn_31 rfl rfl ⟨rfl, rfl⟩
    · intro r0 r1 x2 M ρ y h
      replace h := ao_ifF h (by decide)
      replace h := ao_ifF h (by decide)
      replace h := ao_ifT h rfl
      refine ao_iload_n 2 dX2_takeTurn_55 rfl rfl ?_
      refine ao_ldc (v := 1000000) dX2_takeTurn_56 lk_X2_84 ?_
      refine ao_icmp_ge 80 dX2_takeTurn_58 (by decide) (fun c10 => ?_) (fun c10 => ?_)
      · replace h := ao_ifT h c10
        refine ao_iconst (v := 0) dX2_takeTurn_80 (by decide) ?_
        cases h
        exact ao_ireturn dX2_takeTurn_81 rfl rfl ⟨rfl, rfl⟩
      · replace h := ao_ifF h c10
        refine ao_aload_n 0 dX2_takeTurn_61 rfl rfl ?_
        refine ao_aload_n 1 dX2_takeTurn_62 rfl rfl ?_
        obtain ⟨hk11, h⟩ := ao_some h
        obtain ⟨p12, hp12, h⟩ := ao_bind h
        refine ba_callVi r0 2 (q := (RX2, TX2, 7)) [.ref (Γ.2.2.2 + r1)] (aX2_step (d - 1) (by omega) n r0 r1 M ρ hp12) dX2_takeTurn_63 lc_X2_85 li_X2_step ls_X2_step rfl hk11 rfl rfl (Nat.le_of_ble_eq_true rfl) (ao_hR (by omega) (by decide)) (ao_leC (me_X2_step n r0 r1 M ρ hp12) ((mX2_takeTurn n).2.2.2 r0 r1 x2 p12.1 p12.2.1 p12.2.2 _ h)) (ao_leS (me_X2_step n r0 r1 M ρ hp12) ((mX2_takeTurn n).2.2.2 r0 r1 x2 p12.1 p12.2.1 p12.2.2 _ h)) ?_
        exact ih.2.2.2 r0 r1 x2 p12.1 p12.2.1 p12.2.2 _ h
    · intro r0 r1 x2 s0 M ρ y h
      replace h := ao_ifF h (by decide)
      replace h := ao_ifF h (by decide)
      replace h := ao_ifF h (by decide)
      replace h := ao_ifT h rfl
      refine ao_istore_n 3 (lo' := [some (.ref (Γ.2.2.2 + r0)), some (.ref (Γ.2.2.2 + r1)), some (.int x2), some (.int s0)]) dX2_takeTurn_66 rfl (Nat.le_of_ble_eq_true rfl) rfl ?_
      refine ao_iload_n 3 dX2_takeTurn_67 rfl rfl ?_
      refine ao_iconst (v := (-1)) dX2_takeTurn_68 (by decide) ?_
      refine ao_icmp_eq 74 dX2_takeTurn_69 (by decide) (fun c13 => ?_) (fun c13 => ?_)
      · replace h := ao_ifT h c13
        obtain ⟨v14, hv14⟩ : ∃ z : Int32, z = x2 + (1 : Int32) := ⟨_, rfl⟩
        replace h := ao_letD h hv14
        refine ao_iinc 2 (v := v14) (lo' := [some (.ref (Γ.2.2.2 + r0)), some (.ref (Γ.2.2.2 + r1)), some (.int v14), some (.int s0)]) dX2_takeTurn_74 rfl (by rw [hv14]; rfl) (Nat.le_of_ble_eq_true rfl) rfl ?_
        refine ao_goto 55 dX2_takeTurn_77 (by decide) ?_
        refine ao_loForget (lo' := [some (.ref (Γ.2.2.2 + r0)), some (.ref (Γ.2.2.2 + r1)), some (.int v14), none]) (ao_fgS (ao_fgS (ao_fgS (ao_fgN ao_fgZ)))) ?_
        exact ih.2.2.1 r0 r1 v14 M ρ _ h
      · replace h := ao_ifF h c13
        refine ao_iload_n 3 dX2_takeTurn_72 rfl rfl ?_
        cases h
        exact ao_ireturn dX2_takeTurn_73 rfl rfl ⟨rfl, rfl⟩
theorem me_X2_takeTurn (n : Nat) (r0 : Nat) (r1 : Nat) (M : ao_M) (ρ : ao_H) {y : Int32 × ao_S} (h : gX2_takeTurn n r0 r1 M ρ = some y) : ao_le ρ y.2.2 := (mX2_takeTurn n).1 r0 r1 M ρ y h
set_option maxRecDepth 100000 in
set_option maxHeartbeats 4000000 in
theorem aX2_takeTurn {Γ : ao_C} (d : Nat) (hd : 8 ≤ d) (n : Nat) (r0 : Nat) (r1 : Nat) (M : ao_M) (ρ : ao_H) {y : Int32 × ao_S} (h : gX2_takeTurn n r0 r1 M ρ = some y) : ao_A Γ uX2_takeTurn d (ao_dc ρ y.2.2) (ao_ds ρ y.2.2) [.ref (Γ.2.2.2 + r0), .ref (Γ.2.2.2 + r1)] (M, ρ) (ao_QI y) := by
  refine ao_of (by decide) (ao_cat1 (Nat.le_of_ble_eq_true rfl)) (Nat.le_of_ble_eq_true rfl) ?_
  show ao_W Γ uX2_takeTurn (ao_rm d (ao_dc ρ y.2.2) (ao_ds ρ y.2.2)) (ao_Q Γ (ao_QI y) (ao_dc ρ y.2.2) (ao_ds ρ y.2.2)) (ao_dc ρ y.2.2) (ao_ds ρ y.2.2) 0 [some (.ref (Γ.2.2.2 + r0)), some (.ref (Γ.2.2.2 + r1)), none, none] [] (M, ρ)
  exact (wX2_takeTurn d hd _ _ n).1 r0 r1 M ρ y h

abbrev uX10_turn : ao_Mi := (yX10_turn, cX10_turn, 2, (some .int), [])
def fX10_turn : Nat → Nat → Nat → Int32 → Int32 →  ao_M → ao_H → Option ((Int32 ⊕ String) × ao_S)
  | 0, _, _, _, _, _, _ => none
  | n + 1, pc, r0, x1, s0, M, ρ =>
    if pc = 0 then
      if x1 < 0 then
        fX10_turn n 10 r0 x1 0 M ρ
      else
        if x1 < (6 : Int32) then
          if ρ.2.1 r0 = 20 then
          (ρ.1 r0 2).bind fun j4 =>
          if ρ.2.1 j4 = 12 then
          if (M j4 4) < (20000 : Int32) then
            (ρ.1 j4 1).bind fun j7 =>
            if ρ.2.1 j7 = 4 then
            if ¬ (x1 < 0 ∨ ρ.2.2.1 j7 ≤ x1.toNatClampNeg) then
            (ρ.1 j7 x1.toNatClampNeg).bind fun j10 =>
            (gX2_takeTurn n j4 j10 M ρ).bind fun p11 =>
            fX10_turn n 59 r0 x1 p11.1 p11.2.1 p11.2.2
            else none
            else none
          else
            some (.inr "java/lang/IllegalStateException", M, ao_th ρ)
          else none
          else none
        else
          fX10_turn n 10 r0 x1 0 M ρ
    else if pc = 10 then
      some (.inr "java/lang/IllegalArgumentException", M, ao_th ρ)
    else if pc = 59 then
      some (.inl s0, M, ρ)
    else none
def gX10_turn (n : Nat) (r0 : Nat) (x1 : Int32) (M : ao_M) (ρ : ao_H) : Option ((Int32 ⊕ String) × ao_S) := fX10_turn n 0 r0 x1 0 M ρ
set_option maxRecDepth 100000 in
set_option maxHeartbeats 4000000 in
theorem mX10_turn : ∀ n : Nat, (∀ (r0 : Nat) (x1 : Int32) (M : ao_M) (ρ : ao_H) (y : (Int32 ⊕ String) × ao_S), fX10_turn n 0 r0 x1 0 M ρ = some y → ao_le ρ y.2.2) ∧ (∀ (r0 : Nat) (x1 : Int32) (M : ao_M) (ρ : ao_H) (y : (Int32 ⊕ String) × ao_S), fX10_turn n 10 r0 x1 0 M ρ = some y → ao_le ρ y.2.2) ∧ (∀ (r0 : Nat) (x1 : Int32) (s0 : Int32) (M : ao_M) (ρ : ao_H) (y : (Int32 ⊕ String) × ao_S), fX10_turn n 59 r0 x1 s0 M ρ = some y → ao_le ρ y.2.2) := by
  intro n
  induction n with
  | zero => exact ⟨fun _ _ _ _ _ h => ao_no h, fun _ _ _ _ _ h => ao_no h, fun _ _ _ _ _ _ h => ao_no h⟩
  | succ n ih =>
    refine ⟨?_, ?_, ?_⟩
    · intro r0 x1 M ρ y h
      replace h := ao_ifT h rfl
      rcases ao_ifC h with h | h
      · exact ih.2.1 r0 x1 M ρ _ h
      · rcases ao_ifC h with h | h
        · obtain ⟨-, h⟩ := ao_some h
          obtain ⟨j4, hj4, h⟩ := ao_bind h
          obtain ⟨-, h⟩ := ao_some h
          rcases ao_ifC h with h | h
          · obtain ⟨j7, hj7, h⟩ := ao_bind h
            obtain ⟨-, h⟩ := ao_some h
            obtain ⟨-, h⟩ := ao_some h
            obtain ⟨j10, hj10, h⟩ := ao_bind h
            obtain ⟨p11, hp11, h⟩ := ao_bind h
            exact ao_le_tr (me_X2_takeTurn n j4 j10 M ρ hp11) (ih.2.2 r0 x1 p11.1 p11.2.1 p11.2.2 _ h)
          · cases h
            exact ao_le_th _
        · exact ih.2.1 r0 x1 M ρ _ h
    · intro r0 x1 M ρ y h
      replace h := ao_ifF h (by decide)
      replace h := ao_ifT h rfl
      cases h
      exact ao_le_th _
    · intro r0 x1 s0 M ρ y h
      replace h := ao_ifF h (by decide)
      replace h := ao_ifF h (by decide)
      replace h := ao_ifT h rfl
      cases h
      exact ao_le_rf _
set_option maxRecDepth 100000 in
set_option maxHeartbeats 4000000 in
theorem wX10_turn {Γ : ao_C} (d : Nat) (hd : 9 ≤ d) (MC MS : Nat) : ∀ n : Nat, (∀ (r0 : Nat) (x1 : Int32) (M : ao_M) (ρ : ao_H) (y : (Int32 ⊕ String) × ao_S), fX10_turn n 0 r0 x1 0 M ρ = some y → ao_W Γ uX10_turn (ao_rm d MC MS) (ao_Q Γ (ao_ZI y) MC MS) (ao_dc ρ y.2.2) (ao_ds ρ y.2.2) 0 [some (.ref (Γ.2.2.2 + r0)), some (.int x1)] [] (M, ρ)) ∧ (∀ (r0 : Nat) (x1 : Int32) (M : ao_M) (ρ : ao_H) (y : (Int32 ⊕ String) × ao_S), fX10_turn n 10 r0 x1 0 M ρ = some y → ao_W Γ uX10_turn (ao_rm d MC MS) (ao_Q Γ (ao_ZI y) MC MS) (ao_dc ρ y.2.2) (ao_ds ρ y.2.2) 10 [some (.ref (Γ.2.2.2 + r0)), some (.int x1)] [] (M, ρ)) ∧ (∀ (r0 : Nat) (x1 : Int32) (s0 : Int32) (M : ao_M) (ρ : ao_H) (y : (Int32 ⊕ String) × ao_S), fX10_turn n 59 r0 x1 s0 M ρ = some y → ao_W Γ uX10_turn (ao_rm d MC MS) (ao_Q Γ (ao_ZI y) MC MS) (ao_dc ρ y.2.2) (ao_ds ρ y.2.2) 59 [some (.ref (Γ.2.2.2 + r0)), some (.int x1)] [.int s0] (M, ρ)) := by
  intro n
  induction n with
  | zero => exact ⟨fun _ _ _ _ _ h => ao_no h, fun _ _ _ _ _ h => ao_no h, fun _ _ _ _ _ _ h => ao_no h⟩
  | succ n ih =>
    refine ⟨?_, ?_, ?_⟩
    · intro r0 x1 M ρ y h
      replace h := ao_ifT h rfl
      refine ao_iload_n 1 dX10_turn_0 rfl rfl ?_
      refine ao_if_lt 10 dX10_turn_1 (by decide) (fun c1 => ?_) (fun c1 => ?_)
      · replace h := ao_ifT h c1
        exact ih.2.1 r0 x1 M ρ _ h
      · replace h := ao_ifF h c1
        refine ao_iload_n 1 dX10_turn_4 rfl rfl ?_
        refine ao_bipush (v := 6) dX10_turn_5 (by decide) ?_
        refine ao_icmp_lt 20 dX10_turn_7 (by decide) (fun c2 => ?_) (fun c2 => ?_)
        · replace h := ao_ifT h c2
          refine ao_aload_n 0 dX10_turn_20 rfl rfl ?_
          obtain ⟨hk3, h⟩ := ao_some h
          obtain ⟨j4, hj4, h⟩ := ao_bind h
          refine an_getR r0 10 2 (q := (RX10, TX10, 6)) dX10_turn_21 rfl hk3 (Nat.le_of_ble_eq_true rfl) rfl lf_X10_23 hj4 ?_
          obtain ⟨hk5, h⟩ := ao_some h
          refine an_getI j4 2 4 (q := (RX2, TX2, 7)) dX10_turn_24 rfl hk5 (Nat.le_of_ble_eq_true rfl) rfl lf_X10_132 ?_
          refine ao_sipush (v := 20000) dX10_turn_27 (by decide) ?_
          refine ao_icmp_lt 43 dX10_turn_30 (by decide) (fun c6 => ?_) (fun c6 => ?_)
          · replace h := ao_ifT h c6
            refine ao_aload_n 0 dX10_turn_43 rfl rfl ?_
            refine an_getR r0 10 2 (q := (RX10, TX10, 6)) dX10_turn_44 rfl hk3 (Nat.le_of_ble_eq_true rfl) rfl lf_X10_23 hj4 ?_
            refine ao_aload_n 0 dX10_turn_47 rfl rfl ?_
            refine an_getR r0 10 2 (q := (RX10, TX10, 6)) dX10_turn_48 rfl hk3 (Nat.le_of_ble_eq_true rfl) rfl lf_X10_23 hj4 ?_
            obtain ⟨j7, hj7, h⟩ := ao_bind h
            refine an_getR j4 2 1 (q := (RX2, TX2, 7)) dX10_turn_51 rfl hk5 (Nat.le_of_ble_eq_true rfl) rfl lf_X10_67 hj7 ?_
            refine ao_iload_n 1 dX10_turn_54 rfl rfl ?_
            obtain ⟨hk8, h⟩ := ao_some h
            obtain ⟨hb9, h⟩ := ao_some h
            obtain ⟨j10, hj10, h⟩ := ao_bind h
            refine an_aaload j7 4 dX10_turn_55 hk8 (by decide) hb9 hj10 ?_
            obtain ⟨p11, hp11, h⟩ := ao_bind h
            refine ba_callVi j4 2 (q := (RX2, TX2, 7)) [.ref (Γ.2.2.2 + j10)] (aX2_takeTurn (d - 1) (by omega) n j4 j10 M ρ hp11) dX10_turn_56 lc_X10_137 li_X2_takeTurn ls_X2_takeTurn rfl hk5 rfl rfl (Nat.le_of_ble_eq_true rfl) (ao_hR (by omega) (by decide)) (ao_leC (me_X2_takeTurn n j4 j10 M ρ hp11) ((mX10_turn n).2.2 r0 x1 p11.1 p11.2.1 p11.2.2 _ h)) (ao_leS (me_X2_takeTurn n j4 j10 M ρ hp11) ((mX10_turn n).2.2 r0 x1 p11.1 p11.2.1 p11.2.2 _ h)) ?_
            exact ih.2.2 r0 x1 p11.1 p11.2.1 p11.2.2 _ h
          · replace h := ao_ifF h c6
            cases h
            exact cx_throwS "java/lang/IllegalStateException" "all turns were taken" ["java/lang/RuntimeException", "java/lang/Exception"] lth_X10_135 rfl dX10_turn_33 dX10_turn_36 dX10_turn_37 dX10_turn_39 dX10_turn_42 (by omega) (Nat.le_of_ble_eq_true rfl) ao_thM ⟨rfl, rfl⟩
        · replace h := ao_ifF h c2
          exact ih.2.1 r0 x1 M ρ _ h
    · intro r0 x1 M ρ y h
      replace h := ao_ifF h (by decide)
      replace h := ao_ifT h rfl
      cases h
      exact cx_throwS "java/lang/IllegalArgumentException" "not a thread" ["java/lang/RuntimeException", "java/lang/Exception"] lth_X10_65 rfl dX10_turn_10 dX10_turn_13 dX10_turn_14 dX10_turn_16 dX10_turn_19 (by omega) (Nat.le_of_ble_eq_true rfl) ao_thM ⟨rfl, rfl⟩
    · intro r0 x1 s0 M ρ y h
      replace h := ao_ifF h (by decide)
      replace h := ao_ifF h (by decide)
      replace h := ao_ifT h rfl
      cases h
      exact ao_ireturn dX10_turn_59 rfl rfl ⟨rfl, rfl⟩
theorem me_X10_turn (n : Nat) (r0 : Nat) (x1 : Int32) (M : ao_M) (ρ : ao_H) {y : (Int32 ⊕ String) × ao_S} (h : gX10_turn n r0 x1 M ρ = some y) : ao_le ρ y.2.2 := (mX10_turn n).1 r0 x1 M ρ y h
set_option maxRecDepth 100000 in
set_option maxHeartbeats 4000000 in
theorem aX10_turn {Γ : ao_C} (d : Nat) (hd : 9 ≤ d) (n : Nat) (r0 : Nat) (x1 : Int32) (M : ao_M) (ρ : ao_H) {y : (Int32 ⊕ String) × ao_S} (h : gX10_turn n r0 x1 M ρ = some y) : ao_A Γ uX10_turn d (ao_dc ρ y.2.2) (ao_ds ρ y.2.2) [.ref (Γ.2.2.2 + r0), .int x1] (M, ρ) (ao_ZI y) := by
  refine ao_of (by decide) (ao_cat1 (Nat.le_of_ble_eq_true rfl)) (Nat.le_of_ble_eq_true rfl) ?_
  show ao_W Γ uX10_turn (ao_rm d (ao_dc ρ y.2.2) (ao_ds ρ y.2.2)) (ao_Q Γ (ao_ZI y) (ao_dc ρ y.2.2) (ao_ds ρ y.2.2)) (ao_dc ρ y.2.2) (ao_ds ρ y.2.2) 0 [some (.ref (Γ.2.2.2 + r0)), some (.int x1)] [] (M, ρ)
  exact (wX10_turn d hd _ _ n).1 r0 x1 M ρ y h

abbrev uX10_round : ao_Mi := (yX10_round, cX10_round, 7, (some .int), [])
def fX10_round : Nat → Nat → Nat → Int32 → Int32 → Int32 → Int32 → Nat → Int32 → Int32 →  ao_M → ao_H → Option ((Int32 ⊕ String) × ao_S)
  | 0, _, _, _, _, _, _, _, _, _, _, _ => none
  | n + 1, pc, r0, x1, x2, x3, x4, r5, x6, s0, M, ρ =>
    if pc = 0 then
      if x1 < 0 then
        fX10_round n 11 r0 x1 0 0 0 0 0 0 M ρ
      else
        if x1 ≤ (2000 : Int32) then
          fX10_round n 28 r0 x1 (0 : Int32) (0 : Int32) (0 : Int32) 0 0 0 M ρ
        else
          fX10_round n 11 r0 x1 0 0 0 0 0 0 M ρ
    else if pc = 11 then
      some (.inr "java/lang/IllegalArgumentException", M, ao_th ρ)
    else if pc = 28 then
      if ((6 : Int32) * (x1 + (1 : Int32))) ≤ x4 then
        some (.inl x2, M, ρ)
      else
        if x1 ≤ x2 then
          some (.inl x2, M, ρ)
        else
          if ρ.2.1 r0 = 20 then
          (ρ.1 r0 2).bind fun j6 =>
          if ρ.2.1 j6 = 12 then
          if (20000 : Int32) ≤ (M j6 4) then
            some (.inl x2, M, ρ)
          else
            (gX2_howManyAreLeft n j6 M ρ).bind fun p9 =>
            if x3 < p9.1 then
              (ρ.1 j6 1).bind fun j11 =>
              if ρ.2.1 j11 = 4 then
              if ¬ ((x4 - x4 / (6 : Int32) * (6 : Int32)) < 0 ∨ ρ.2.2.1 j11 ≤ (x4 - x4 / (6 : Int32) * (6 : Int32)).toNatClampNeg) then
              (ρ.1 j11 ((x4 - x4 / (6 : Int32) * (6 : Int32)).toNatClampNeg)).bind fun j14 =>
              if ρ.2.1 j14 = 17 then
              (gX7_isLeft n j14 p9.2 ρ).bind fun p16 =>
              if p16.1 = 0 then
                fX10_round n 127 r0 x1 x2 x3 x4 j14 0 0 p16.2 ρ
              else
                (gX2_takeTurn n j6 j14 p16.2 ρ).bind fun p18 =>
                fX10_round n 102 r0 x1 x2 x3 x4 j14 0 p18.1 p18.2.1 p18.2.2
              else none
              else none
              else none
            else
              some (.inl x2, p9.2, ρ)
          else none
          else none
    else if pc = 102 then
      ao_let (x2 + (1 : Int32)) fun v19 =>
      if s0 = (3 : Int32) then
        fX10_round n 119 r0 x1 v19 x3 x4 r5 s0 0 M ρ
      else
        if s0 = (4 : Int32) then
          fX10_round n 119 r0 x1 v19 x3 x4 r5 s0 0 M ρ
        else
          fX10_round n 126 r0 x1 v19 x3 x4 r5 s0 (0 : Int32) M ρ
    else if pc = 119 then
      fX10_round n 126 r0 x1 x2 x3 x4 r5 x6 (x3 + (1 : Int32)) M ρ
    else if pc = 126 then
      fX10_round n 127 r0 x1 x2 s0 x4 r5 0 0 M ρ
    else if pc = 127 then
      ao_let (x4 + (1 : Int32)) fun v22 =>
      fX10_round n 28 r0 x1 x2 x3 v22 0 0 0 M ρ
    else none
def gX10_round (n : Nat) (r0 : Nat) (x1 : Int32) (M : ao_M) (ρ : ao_H) : Option ((Int32 ⊕ String) × ao_S) := fX10_round n 0 r0 x1 0 0 0 0 0 0 M ρ
set_option maxRecDepth 100000 in
set_option maxHeartbeats 4000000 in
theorem mX10_round : ∀ n : Nat, (∀ (r0 : Nat) (x1 : Int32) (M : ao_M) (ρ : ao_H) (y : (Int32 ⊕ String) × ao_S), fX10_round n 0 r0 x1 0 0 0 0 0 0 M ρ = some y → ao_le ρ y.2.2) ∧ (∀ (r0 : Nat) (x1 : Int32) (M : ao_M) (ρ : ao_H) (y : (Int32 ⊕ String) × ao_S), fX10_round n 11 r0 x1 0 0 0 0 0 0 M ρ = some y → ao_le ρ y.2.2) ∧ (∀ (r0 : Nat) (x1 : Int32) (x2 : Int32) (x3 : Int32) (x4 : Int32) (M : ao_M) (ρ : ao_H) (y : (Int32 ⊕ String) × ao_S), fX10_round n 28 r0 x1 x2 x3 x4 0 0 0 M ρ = some y → ao_le ρ y.2.2) ∧ (∀ (r0 : Nat) (x1 : Int32) (x2 : Int32) (x3 : Int32) (x4 : Int32) (r5 : Nat) (s0 : Int32) (M : ao_M) (ρ : ao_H) (y : (Int32 ⊕ String) × ao_S), fX10_round n 102 r0 x1 x2 x3 x4 r5 0 s0 M ρ = some y → ao_le ρ y.2.2) ∧ (∀ (r0 : Nat) (x1 : Int32) (x2 : Int32) (x3 : Int32) (x4 : Int32) (r5 : Nat) (x6 : Int32) (M : ao_M) (ρ : ao_H) (y : (Int32 ⊕ String) × ao_S), fX10_round n 119 r0 x1 x2 x3 x4 r5 x6 0 M ρ = some y → ao_le ρ y.2.2) ∧ (∀ (r0 : Nat) (x1 : Int32) (x2 : Int32) (x3 : Int32) (x4 : Int32) (r5 : Nat) (x6 : Int32) (s0 : Int32) (M : ao_M) (ρ : ao_H) (y : (Int32 ⊕ String) × ao_S), fX10_round n 126 r0 x1 x2 x3 x4 r5 x6 s0 M ρ = some y → ao_le ρ y.2.2) ∧ (∀ (r0 : Nat) (x1 : Int32) (x2 : Int32) (x3 : Int32) (x4 : Int32) (r5 : Nat) (M : ao_M) (ρ : ao_H) (y : (Int32 ⊕ String) × ao_S), fX10_round n 127 r0 x1 x2 x3 x4 r5 0 0 M ρ = some y → ao_le ρ y.2.2) := by
  intro n
  induction n with
  | zero => exact ⟨fun _ _ _ _ _ h => ao_no h, fun _ _ _ _ _ h => ao_no h, fun _ _ _ _ _ _ _ _ h => ao_no h, fun _ _ _ _ _ _ _ _ _ _ h => ao_no h, fun _ _ _ _ _ _ _ _ _ _ h => ao_no h, fun _ _ _ _ _ _ _ _ _ _ _ h => ao_no h, fun _ _ _ _ _ _ _ _ _ h => ao_no h⟩
  | succ n ih =>
    refine ⟨?_, ?_, ?_, ?_, ?_, ?_, ?_⟩
    · intro r0 x1 M ρ y h
      replace h := ao_ifT h rfl
      rcases ao_ifC h with h | h
      · exact ih.2.1 r0 x1 M ρ _ h
      · rcases ao_ifC h with h | h
        · exact ih.2.2.1 r0 x1 (0 : Int32) (0 : Int32) (0 : Int32) M ρ _ h
        · exact ih.2.1 r0 x1 M ρ _ h
    · intro r0 x1 M ρ y h
      replace h := ao_ifF h (by decide)
      replace h := ao_ifT h rfl
      cases h
      exact ao_le_th _
    · intro r0 x1 x2 x3 x4 M ρ y h
      replace h := ao_ifF h (by decide)
      replace h := ao_ifF h (by decide)
      replace h := ao_ifT h rfl
      rcases ao_ifC h with h | h
      · cases h
        exact ao_le_rf _
      · rcases ao_ifC h with h | h
        · cases h
          exact ao_le_rf _
        · obtain ⟨-, h⟩ := ao_some h
          obtain ⟨j6, hj6, h⟩ := ao_bind h
          obtain ⟨-, h⟩ := ao_some h
          rcases ao_ifC h with h | h
          · cases h
            exact ao_le_rf _
          · obtain ⟨p9, hp9, h⟩ := ao_bind h
            rcases ao_ifC h with h | h
            · obtain ⟨j11, hj11, h⟩ := ao_bind h
              obtain ⟨-, h⟩ := ao_some h
              obtain ⟨-, h⟩ := ao_some h
              obtain ⟨j14, hj14, h⟩ := ao_bind h
              obtain ⟨-, h⟩ := ao_some h
              obtain ⟨p16, hp16, h⟩ := ao_bind h
              rcases ao_ifC h with h | h
              · exact ih.2.2.2.2.2.2 r0 x1 x2 x3 x4 j14 p16.2 ρ _ h
              · obtain ⟨p18, hp18, h⟩ := ao_bind h
                exact ao_le_tr (me_X2_takeTurn n j6 j14 p16.2 ρ hp18) (ih.2.2.2.1 r0 x1 x2 x3 x4 j14 p18.1 p18.2.1 p18.2.2 _ h)
            · cases h
              exact ao_le_rf _
    · intro r0 x1 x2 x3 x4 r5 s0 M ρ y h
      replace h := ao_ifF h (by decide)
      replace h := ao_ifF h (by decide)
      replace h := ao_ifF h (by decide)
      replace h := ao_ifT h rfl
      replace h := ao_letD h rfl
      generalize (x2 + (1 : Int32)) = v19 at h
      rcases ao_ifC h with h | h
      · exact ih.2.2.2.2.1 r0 x1 v19 x3 x4 r5 s0 M ρ _ h
      · rcases ao_ifC h with h | h
        · exact ih.2.2.2.2.1 r0 x1 v19 x3 x4 r5 s0 M ρ _ h
        · exact ih.2.2.2.2.2.1 r0 x1 v19 x3 x4 r5 s0 (0 : Int32) M ρ _ h
    · intro r0 x1 x2 x3 x4 r5 x6 M ρ y h
      replace h := ao_ifF h (by decide)
      replace h := ao_ifF h (by decide)
      replace h := ao_ifF h (by decide)
      replace h := ao_ifF h (by decide)
      replace h := ao_ifT h rfl
      exact ih.2.2.2.2.2.1 r0 x1 x2 x3 x4 r5 x6 (x3 + (1 : Int32)) M ρ _ h
    · intro r0 x1 x2 x3 x4 r5 x6 s0 M ρ y h
      replace h := ao_ifF h (by decide)
      replace h := ao_ifF h (by decide)
      replace h := ao_ifF h (by decide)
      replace h := ao_ifF h (by decide)
      replace h := ao_ifF h (by decide)
      replace h := ao_ifT h rfl
      exact ih.2.2.2.2.2.2 r0 x1 x2 s0 x4 r5 M ρ _ h
    · intro r0 x1 x2 x3 x4 r5 M ρ y h
      replace h := ao_ifF h (by decide)
      replace h := ao_ifF h (by decide)
      replace h := ao_ifF h (by decide)
      replace h := ao_ifF h (by decide)
      replace h := ao_ifF h (by decide)
      replace h := ao_ifF h (by decide)
      replace h := ao_ifT h rfl
      replace h := ao_letD h rfl
      generalize (x4 + (1 : Int32)) = v22 at h
      exact ih.2.2.1 r0 x1 x2 x3 v22 M ρ _ h
set_option maxRecDepth 100000 in
set_option maxHeartbeats 4000000 in
theorem wX10_round {Γ : ao_C} (d : Nat) (hd : 9 ≤ d) (MC MS : Nat) : ∀ n : Nat, (∀ (r0 : Nat) (x1 : Int32) (M : ao_M) (ρ : ao_H) (y : (Int32 ⊕ String) × ao_S), fX10_round n 0 r0 x1 0 0 0 0 0 0 M ρ = some y → ao_W Γ uX10_round (ao_rm d MC MS) (ao_Q Γ (ao_ZI y) MC MS) (ao_dc ρ y.2.2) (ao_ds ρ y.2.2) 0 [some (.ref (Γ.2.2.2 + r0)), some (.int x1), none, none, none, none, none] [] (M, ρ)) ∧ (∀ (r0 : Nat) (x1 : Int32) (M : ao_M) (ρ : ao_H) (y : (Int32 ⊕ String) × ao_S), fX10_round n 11 r0 x1 0 0 0 0 0 0 M ρ = some y → ao_W Γ uX10_round (ao_rm d MC MS) (ao_Q Γ (ao_ZI y) MC MS) (ao_dc ρ y.2.2) (ao_ds ρ y.2.2) 11 [some (.ref (Γ.2.2.2 + r0)), some (.int x1), none, none, none, none, none] [] (M, ρ)) ∧ (∀ (r0 : Nat) (x1 : Int32) (x2 : Int32) (x3 : Int32) (x4 : Int32) (M : ao_M) (ρ : ao_H) (y : (Int32 ⊕ String) × ao_S), fX10_round n 28 r0 x1 x2 x3 x4 0 0 0 M ρ = some y → ao_W Γ uX10_round (ao_rm d MC MS) (ao_Q Γ (ao_ZI y) MC MS) (ao_dc ρ y.2.2) (ao_ds ρ y.2.2) 28 [some (.ref (Γ.2.2.2 + r0)), some (.int x1), some (.int x2), some (.int x3), some (.int x4), none, none] [] (M, ρ)) ∧ (∀ (r0 : Nat) (x1 : Int32) (x2 : Int32) (x3 : Int32) (x4 : Int32) (r5 : Nat) (s0 : Int32) (M : ao_M) (ρ : ao_H) (y : (Int32 ⊕ String) × ao_S), fX10_round n 102 r0 x1 x2 x3 x4 r5 0 s0 M ρ = some y → ao_W Γ uX10_round (ao_rm d MC MS) (ao_Q Γ (ao_ZI y) MC MS) (ao_dc ρ y.2.2) (ao_ds ρ y.2.2) 102 [some (.ref (Γ.2.2.2 + r0)), some (.int x1), some (.int x2), some (.int x3), some (.int x4), some (.ref (Γ.2.2.2 + r5)), none] [.int s0] (M, ρ)) ∧ (∀ (r0 : Nat) (x1 : Int32) (x2 : Int32) (x3 : Int32) (x4 : Int32) (r5 : Nat) (x6 : Int32) (M : ao_M) (ρ : ao_H) (y : (Int32 ⊕ String) × ao_S), fX10_round n 119 r0 x1 x2 x3 x4 r5 x6 0 M ρ = some y → ao_W Γ uX10_round (ao_rm d MC MS) (ao_Q Γ (ao_ZI y) MC MS) (ao_dc ρ y.2.2) (ao_ds ρ y.2.2) 119 [some (.ref (Γ.2.2.2 + r0)), some (.int x1), some (.int x2), some (.int x3), some (.int x4), some (.ref (Γ.2.2.2 + r5)), some (.int x6)] [] (M, ρ)) ∧ (∀ (r0 : Nat) (x1 : Int32) (x2 : Int32) (x3 : Int32) (x4 : Int32) (r5 : Nat) (x6 : Int32) (s0 : Int32) (M : ao_M) (ρ : ao_H) (y : (Int32 ⊕ String) × ao_S), fX10_round n 126 r0 x1 x2 x3 x4 r5 x6 s0 M ρ = some y → ao_W Γ uX10_round (ao_rm d MC MS) (ao_Q Γ (ao_ZI y) MC MS) (ao_dc ρ y.2.2) (ao_ds ρ y.2.2) 126 [some (.ref (Γ.2.2.2 + r0)), some (.int x1), some (.int x2), some (.int x3), some (.int x4), some (.ref (Γ.2.2.2 + r5)), some (.int x6)] [.int s0] (M, ρ)) ∧ (∀ (r0 : Nat) (x1 : Int32) (x2 : Int32) (x3 : Int32) (x4 : Int32) (r5 : Nat) (M : ao_M) (ρ : ao_H) (y : (Int32 ⊕ String) × ao_S), fX10_round n 127 r0 x1 x2 x3 x4 r5 0 0 M ρ = some y → ao_W Γ uX10_round (ao_rm d MC MS) (ao_Q Γ (ao_ZI y) MC MS) (ao_dc ρ y.2.2) (ao_ds ρ y.2.2) 127 [some (.ref (Γ.2.2.2 + r0)), some (.int x1), some (.int x2), some (.int x3), some (.int x4), some (.ref (Γ.2.2.2 + r5)), none] [] (M, ρ)) := by
  intro n
  induction n with
  | zero => exact ⟨fun _ _ _ _ _ h => ao_no h, fun _ _ _ _ _ h => ao_no h, fun _ _ _ _ _ _ _ _ h => ao_no h, fun _ _ _ _ _ _ _ _ _ _ h => ao_no h, fun _ _ _ _ _ _ _ _ _ _ h => ao_no h, fun _ _ _ _ _ _ _ _ _ _ _ h => ao_no h, fun _ _ _ _ _ _ _ _ _ h => ao_no h⟩
  | succ n ih =>
    refine ⟨?_, ?_, ?_, ?_, ?_, ?_, ?_⟩
    · intro r0 x1 M ρ y h
      replace h := ao_ifT h rfl
      refine ao_iload_n 1 dX10_round_0 rfl rfl ?_
      refine ao_if_lt 11 dX10_round_1 (by decide) (fun c1 => ?_) (fun c1 => ?_)
      · replace h := ao_ifT h c1
        exact ih.2.1 r0 x1 M ρ _ h
      · replace h := ao_ifF h c1
        refine ao_iload_n 1 dX10_round_4 rfl rfl ?_
        refine ao_sipush (v := 2000) dX10_round_5 (by decide) ?_
        refine ao_icmp_le 21 dX10_round_8 (by decide) (fun c2 => ?_) (fun c2 => ?_)
        · replace h := ao_ifT h c2
          refine ao_iconst (v := 0) dX10_round_21 (by decide) ?_
          refine ao_istore_n 2 (lo' := [some (.ref (Γ.2.2.2 + r0)), some (.int x1), some (.int (0 : Int32)), none, none, none, none]) dX10_round_22 rfl (Nat.le_of_ble_eq_true rfl) rfl ?_
          refine ao_iconst (v := 0) dX10_round_23 (by decide) ?_
          refine ao_istore_n 3 (lo' := [some (.ref (Γ.2.2.2 + r0)), some (.int x1), some (.int (0 : Int32)), some (.int (0 : Int32)), none, none, none]) dX10_round_24 rfl (Nat.le_of_ble_eq_true rfl) rfl ?_
          refine ao_iconst (v := 0) dX10_round_25 (by decide) ?_
          refine ao_istore 4 (lo' := [some (.ref (Γ.2.2.2 + r0)), some (.int x1), some (.int (0 : Int32)), some (.int (0 : Int32)), some (.int (0 : Int32)), none, none]) dX10_round_26 (Nat.le_of_ble_eq_true rfl) rfl ?_
          exact ih.2.2.1 r0 x1 (0 : Int32) (0 : Int32) (0 : Int32) M ρ _ h
        · replace h := ao_ifF h c2
          exact ih.2.1 r0 x1 M ρ _ h
    · intro r0 x1 M ρ y h
      replace h := ao_ifF h (by decide)
      replace h := ao_ifT h rfl
      cases h
      exact cx_throwS "java/lang/IllegalArgumentException" "not a number of turns" ["java/lang/RuntimeException", "java/lang/Exception"] lth_X10_141 rfl dX10_round_11 dX10_round_14 dX10_round_15 dX10_round_17 dX10_round_20 (by omega) (Nat.le_of_ble_eq_true rfl) ao_thM ⟨rfl, rfl⟩
    · intro r0 x1 x2 x3 x4 M ρ y h
      replace h := ao_ifF h (by decide)
      replace h := ao_ifF h (by decide)
      replace h := ao_ifT h rfl
      refine ao_iload 4 dX10_round_28 rfl ?_
      refine ao_bipush (v := 6) dX10_round_30 (by decide) ?_
      refine ao_iload_n 1 dX10_round_32 rfl rfl ?_
      refine ao_iconst (v := 1) dX10_round_33 (by decide) ?_
      refine ao_iadd dX10_round_34 ?_
      refine ao_imul dX10_round_35 ?_
      refine ao_icmp_ge 133 dX10_round_36 (by decide) (fun c3 => ?_) (fun c3 => ?_)
      · replace h := ao_ifT h c3
        refine ao_iload_n 2 dX10_round_133 rfl rfl ?_
        cases h
        exact ao_ireturn dX10_round_134 rfl rfl ⟨rfl, rfl⟩
      · replace h := ao_ifF h c3
        refine ao_iload_n 2 dX10_round_39 rfl rfl ?_
        refine ao_iload_n 1 dX10_round_40 rfl rfl ?_
        refine ao_icmp_ge 133 dX10_round_41 (by decide) (fun c4 => ?_) (fun c4 => ?_)
        · replace h := ao_ifT h c4
          refine ao_iload_n 2 dX10_round_133 rfl rfl ?_
          cases h
          exact ao_ireturn dX10_round_134 rfl rfl ⟨rfl, rfl⟩
        · replace h := ao_ifF h c4
          refine ao_aload_n 0 dX10_round_44 rfl rfl ?_
          obtain ⟨hk5, h⟩ := ao_some h
          obtain ⟨j6, hj6, h⟩ := ao_bind h
          refine an_getR r0 10 2 (q := (RX10, TX10, 6)) dX10_round_45 rfl hk5 (Nat.le_of_ble_eq_true rfl) rfl lf_X10_23 hj6 ?_
          obtain ⟨hk7, h⟩ := ao_some h
          refine an_getI j6 2 4 (q := (RX2, TX2, 7)) dX10_round_48 rfl hk7 (Nat.le_of_ble_eq_true rfl) rfl lf_X10_132 ?_
          refine ao_sipush (v := 20000) dX10_round_51 (by decide) ?_
          refine ao_icmp_ge 68 dX10_round_54 (by decide) (fun c8 => ?_) (fun c8 => ?_)
          · replace h := ao_ifT h c8
            refine ao_iload_n 2 dX10_round_68 rfl rfl ?_
            cases h
            exact ao_ireturn dX10_round_69 rfl rfl ⟨rfl, rfl⟩
          · replace h := ao_ifF h c8
            refine ao_iload_n 3 dX10_round_57 rfl rfl ?_
            refine ao_aload_n 0 dX10_round_58 rfl rfl ?_
            refine an_getR r0 10 2 (q := (RX10, TX10, 6)) dX10_round_59 rfl hk5 (Nat.le_of_ble_eq_true rfl) rfl lf_X10_23 hj6 ?_
            obtain ⟨p9, hp9, h⟩ := ao_bind h
            refine an_callVi j6 2 (q := (RX2, TX2, 7)) [] (aX2_howManyAreLeft (d - 1) (by omega) _ j6 M ρ hp9) dX10_round_62 lc_X10_143 li_X2_howManyAreLeft ls_X2_howManyAreLeft rfl hk7 rfl rfl (Nat.le_of_ble_eq_true rfl) (ao_hR (by omega) (by decide)) ?_
            refine ao_icmp_lt 70 dX10_round_65 (by decide) (fun c10 => ?_) (fun c10 => ?_)
            · replace h := ao_ifT h c10
              refine ao_aload_n 0 dX10_round_70 rfl rfl ?_
              refine an_getR r0 10 2 (q := (RX10, TX10, 6)) dX10_round_71 rfl hk5 (Nat.le_of_ble_eq_true rfl) rfl lf_X10_23 hj6 ?_
              obtain ⟨j11, hj11, h⟩ := ao_bind h
              refine an_getR j6 2 1 (q := (RX2, TX2, 7)) dX10_round_74 rfl hk7 (Nat.le_of_ble_eq_true rfl) rfl lf_X10_67 hj11 ?_
              refine ao_iload 4 dX10_round_77 rfl ?_
              refine ao_bipush (v := 6) dX10_round_79 (by decide) ?_
              refine ao_irem dX10_round_81 (by decide) ?_
              obtain ⟨hk12, h⟩ := ao_some h
              obtain ⟨hb13, h⟩ := ao_some h
              obtain ⟨j14, hj14, h⟩ := ao_bind h
              refine an_aaload j11 4 dX10_round_82 hk12 (by decide) hb13 hj14 ?_
              refine ao_astore 5 (lo' := [some (.ref (Γ.2.2.2 + r0)), some (.int x1), some (.int x2), some (.int x3), some (.int x4), some (.ref (Γ.2.2.2 + j14)), none]) dX10_round_83 (Nat.le_of_ble_eq_true rfl) rfl ?_
              refine ao_aload 5 dX10_round_85 rfl ?_
              obtain ⟨hk15, h⟩ := ao_some h
              obtain ⟨p16, hp16, h⟩ := ao_bind h
              refine an_callVi j14 7 (q := (RX7, TX7, 20)) [] (aX7_isLeft (d - 1) (by omega) _ j14 p9.2 ρ hp16) dX10_round_87 lc_X10_147 li_X7_isLeft ls_X7_isLeft rfl hk15 rfl rfl (Nat.le_of_ble_eq_true rfl) (ao_hR (by omega) (by decide)) ?_
              refine ao_if_eq 127 dX10_round_90 (by decide) (fun c17 => ?_) (fun c17 => ?_)
              · replace h := ao_ifT h c17
                exact ih.2.2.2.2.2.2 r0 x1 x2 x3 x4 j14 p16.2 ρ _ h
              · replace h := ao_ifF h c17
                refine ao_aload_n 0 dX10_round_93 rfl rfl ?_
                refine an_getR r0 10 2 (q := (RX10, TX10, 6)) dX10_round_94 rfl hk5 (Nat.le_of_ble_eq_true rfl) rfl lf_X10_23 hj6 ?_
                refine ao_aload 5 dX10_round_97 rfl ?_
                obtain ⟨p18, hp18, h⟩ := ao_bind h
                refine ba_callVi j6 2 (q := (RX2, TX2, 7)) [.ref (Γ.2.2.2 + j14)] (aX2_takeTurn (d - 1) (by omega) n j6 j14 p16.2 ρ hp18) dX10_round_99 lc_X10_137 li_X2_takeTurn ls_X2_takeTurn rfl hk7 rfl rfl (Nat.le_of_ble_eq_true rfl) (ao_hR (by omega) (by decide)) (ao_leC (me_X2_takeTurn n j6 j14 p16.2 ρ hp18) ((mX10_round n).2.2.2.1 r0 x1 x2 x3 x4 j14 p18.1 p18.2.1 p18.2.2 _ h)) (ao_leS (me_X2_takeTurn n j6 j14 p16.2 ρ hp18) ((mX10_round n).2.2.2.1 r0 x1 x2 x3 x4 j14 p18.1 p18.2.1 p18.2.2 _ h)) ?_
                exact ih.2.2.2.1 r0 x1 x2 x3 x4 j14 p18.1 p18.2.1 p18.2.2 _ h
            · replace h := ao_ifF h c10
              refine ao_iload_n 2 dX10_round_68 rfl rfl ?_
              cases h
              exact ao_ireturn dX10_round_69 rfl rfl ⟨rfl, rfl⟩
    · intro r0 x1 x2 x3 x4 r5 s0 M ρ y h
      replace h := ao_ifF h (by decide)
      replace h := ao_ifF h (by decide)
      replace h := ao_ifF h (by decide)
      replace h := ao_ifT h rfl
      refine ao_istore 6 (lo' := [some (.ref (Γ.2.2.2 + r0)), some (.int x1), some (.int x2), some (.int x3), some (.int x4), some (.ref (Γ.2.2.2 + r5)), some (.int s0)]) dX10_round_102 (Nat.le_of_ble_eq_true rfl) rfl ?_
      obtain ⟨v19, hv19⟩ : ∃ z : Int32, z = x2 + (1 : Int32) := ⟨_, rfl⟩
      replace h := ao_letD h hv19
      refine ao_iinc 2 (v := v19) (lo' := [some (.ref (Γ.2.2.2 + r0)), some (.int x1), some (.int v19), some (.int x3), some (.int x4), some (.ref (Γ.2.2.2 + r5)), some (.int s0)]) dX10_round_104 rfl (by rw [hv19]; rfl) (Nat.le_of_ble_eq_true rfl) rfl ?_
      refine ao_iload 6 dX10_round_107 rfl ?_
      refine ao_iconst (v := 3) dX10_round_109 (by decide) ?_
      refine ao_icmp_eq 119 dX10_round_110 (by decide) (fun c20 => ?_) (fun c20 => ?_)
      · replace h := ao_ifT h c20
        exact ih.2.2.2.2.1 r0 x1 v19 x3 x4 r5 s0 M ρ _ h
      · replace h := ao_ifF h c20
        refine ao_iload 6 dX10_round_113 rfl ?_
        refine ao_iconst (v := 4) dX10_round_115 (by decide) ?_
        refine ao_icmp_ne 125 dX10_round_116 (by decide) (fun c21 => ?_) (fun c21 => ?_)
        · replace h := ao_ifF h c21
          refine ao_iconst (v := 0) dX10_round_125 (by decide) ?_
          exact ih.2.2.2.2.2.1 r0 x1 v19 x3 x4 r5 s0 (0 : Int32) M ρ _ h
        · replace h := ao_ifT h c21
          exact ih.2.2.2.2.1 r0 x1 v19 x3 x4 r5 s0 M ρ _ h
    · intro r0 x1 x2 x3 x4 r5 x6 M ρ y h
      replace h := ao_ifF h (by decide)
      replace h := ao_ifF h (by decide)
      replace h := ao_ifF h (by decide)
      replace h := ao_ifF h (by decide)
      replace h := ao_ifT h rfl
      refine ao_iload_n 3 dX10_round_119 rfl rfl ?_
      refine ao_iconst (v := 1) dX10_round_120 (by decide) ?_
      refine ao_iadd dX10_round_121 ?_
      refine ao_goto 126 dX10_round_122 (by decide) ?_
      exact ih.2.2.2.2.2.1 r0 x1 x2 x3 x4 r5 x6 (x3 + (1 : Int32)) M ρ _ h
    · intro r0 x1 x2 x3 x4 r5 x6 s0 M ρ y h
      replace h := ao_ifF h (by decide)
      replace h := ao_ifF h (by decide)
      replace h := ao_ifF h (by decide)
      replace h := ao_ifF h (by decide)
      replace h := ao_ifF h (by decide)
      replace h := ao_ifT h rfl
      refine ao_istore_n 3 (lo' := [some (.ref (Γ.2.2.2 + r0)), some (.int x1), some (.int x2), some (.int s0), some (.int x4), some (.ref (Γ.2.2.2 + r5)), some (.int x6)]) dX10_round_126 rfl (Nat.le_of_ble_eq_true rfl) rfl ?_
      refine ao_loForget (lo' := [some (.ref (Γ.2.2.2 + r0)), some (.int x1), some (.int x2), some (.int s0), some (.int x4), some (.ref (Γ.2.2.2 + r5)), none]) (ao_fgS (ao_fgS (ao_fgS (ao_fgS (ao_fgS (ao_fgS (ao_fgN ao_fgZ))))))) ?_
      exact ih.2.2.2.2.2.2 r0 x1 x2 s0 x4 r5 M ρ _ h
    · intro r0 x1 x2 x3 x4 r5 M ρ y h
      replace h := ao_ifF h (by decide)
      replace h := ao_ifF h (by decide)
      replace h := ao_ifF h (by decide)
      replace h := ao_ifF h (by decide)
      replace h := ao_ifF h (by decide)
      replace h := ao_ifF h (by decide)
      replace h := ao_ifT h rfl
      obtain ⟨v22, hv22⟩ : ∃ z : Int32, z = x4 + (1 : Int32) := ⟨_, rfl⟩
      replace h := ao_letD h hv22
      refine ao_iinc 4 (v := v22) (lo' := [some (.ref (Γ.2.2.2 + r0)), some (.int x1), some (.int x2), some (.int x3), some (.int v22), some (.ref (Γ.2.2.2 + r5)), none]) dX10_round_127 rfl (by rw [hv22]; rfl) (Nat.le_of_ble_eq_true rfl) rfl ?_
      refine ao_goto 28 dX10_round_130 (by decide) ?_
      refine ao_loForget (lo' := [some (.ref (Γ.2.2.2 + r0)), some (.int x1), some (.int x2), some (.int x3), some (.int v22), none, none]) (ao_fgS (ao_fgS (ao_fgS (ao_fgS (ao_fgS (ao_fgN (ao_fgN ao_fgZ))))))) ?_
      exact ih.2.2.1 r0 x1 x2 x3 v22 M ρ _ h
theorem me_X10_round (n : Nat) (r0 : Nat) (x1 : Int32) (M : ao_M) (ρ : ao_H) {y : (Int32 ⊕ String) × ao_S} (h : gX10_round n r0 x1 M ρ = some y) : ao_le ρ y.2.2 := (mX10_round n).1 r0 x1 M ρ y h
set_option maxRecDepth 100000 in
set_option maxHeartbeats 4000000 in
theorem aX10_round {Γ : ao_C} (d : Nat) (hd : 9 ≤ d) (n : Nat) (r0 : Nat) (x1 : Int32) (M : ao_M) (ρ : ao_H) {y : (Int32 ⊕ String) × ao_S} (h : gX10_round n r0 x1 M ρ = some y) : ao_A Γ uX10_round d (ao_dc ρ y.2.2) (ao_ds ρ y.2.2) [.ref (Γ.2.2.2 + r0), .int x1] (M, ρ) (ao_ZI y) := by
  refine ao_of (by decide) (ao_cat1 (Nat.le_of_ble_eq_true rfl)) (Nat.le_of_ble_eq_true rfl) ?_
  show ao_W Γ uX10_round (ao_rm d (ao_dc ρ y.2.2) (ao_ds ρ y.2.2)) (ao_Q Γ (ao_ZI y) (ao_dc ρ y.2.2) (ao_ds ρ y.2.2)) (ao_dc ρ y.2.2) (ao_ds ρ y.2.2) 0 [some (.ref (Γ.2.2.2 + r0)), some (.int x1), none, none, none, none, none] [] (M, ρ)
  exact (wX10_round d hd _ _ n).1 r0 x1 M ρ y h

abbrev uL_turn : ao_Mi := (yL_turn, cL_turn, 4, (some .int), [(0, 9, 12, 19), (0, 9, 15, 28)])
def fL_turn : Nat → Nat → Nat → Int32 → Nat → Int32 → Int32 → Nat →  ao_M → ao_H → Option (Int32 × ao_S)
  | 0, _, _, _, _, _, _, _, _, _ => none
  | n + 1, pc, r0, x1, r2, s0, s1, q2, M, ρ =>
    if pc = 0 then
      if ρ.2.1 r0 = 20 then
      (gX10_turn n r0 x1 M ρ).bind fun p2 =>
      ao_cs p2.1 (fun wx3 => fL_turn n 7 r0 x1 r2 wx3 (0 : Int32) r2 p2.2.1 p2.2.2) fun E5 =>
        if E5 = "java/lang/IllegalArgumentException" then
          some ((1 : Int32), p2.2.1, p2.2.2)
        else
        if E5 = "java/lang/IllegalStateException" then
          some ((2 : Int32), p2.2.1, p2.2.2)
        else
        none
      else none
    else if pc = 7 then
      if ρ.2.1 q2 = 3 then
      if ¬ (s1 < 0 ∨ ρ.2.2.1 q2 ≤ s1.toNatClampNeg) then
      ao_let (ao_u M q2 s1.toNatClampNeg s0) fun M10 =>
      some ((0 : Int32), M10, ρ)
      else none
      else none
    else none
def gL_turn (n : Nat) (r0 : Nat) (x1 : Int32) (r2 : Nat) (M : ao_M) (ρ : ao_H) : Option (Int32 × ao_S) := fL_turn n 0 r0 x1 r2 0 0 0 M ρ
set_option maxRecDepth 100000 in
set_option maxHeartbeats 4000000 in
theorem mL_turn : ∀ n : Nat, (∀ (r0 : Nat) (x1 : Int32) (r2 : Nat) (M : ao_M) (ρ : ao_H) (y : Int32 × ao_S), fL_turn n 0 r0 x1 r2 0 0 0 M ρ = some y → ao_le ρ y.2.2) ∧ (∀ (r0 : Nat) (x1 : Int32) (r2 : Nat) (s0 : Int32) (s1 : Int32) (q2 : Nat) (M : ao_M) (ρ : ao_H) (y : Int32 × ao_S), fL_turn n 7 r0 x1 r2 s0 s1 q2 M ρ = some y → ao_le ρ y.2.2) := by
  intro n
  induction n with
  | zero => exact ⟨fun _ _ _ _ _ _ h => ao_no h, fun _ _ _ _ _ _ _ _ _ h => ao_no h⟩
  | succ n ih =>
    refine ⟨?_, ?_⟩
    · intro r0 x1 r2 M ρ y h
      replace h := ao_ifT h rfl
      obtain ⟨-, h⟩ := ao_some h
      obtain ⟨p2, hp2, h⟩ := ao_bind h
      refine ao_le_tr (me_X10_turn n r0 x1 M ρ hp2) ?_
      refine ao_csM h (fun wx3 h => ?_) (fun _ h => ?_)
      · exact ih.2 r0 x1 r2 wx3 (0 : Int32) r2 p2.2.1 p2.2.2 _ h
      · rcases ao_ifC h with h | h
        · cases h
          exact ao_le_rf _
        · rcases ao_ifC h with h | h
          · cases h
            exact ao_le_rf _
          · exact ao_no h
    · intro r0 x1 r2 s0 s1 q2 M ρ y h
      replace h := ao_ifF h (by decide)
      replace h := ao_ifT h rfl
      obtain ⟨-, h⟩ := ao_some h
      obtain ⟨-, h⟩ := ao_some h
      replace h := ao_letD h rfl
      generalize (ao_u M q2 s1.toNatClampNeg s0) = M10 at h
      cases h
      exact ao_le_rf _
set_option maxRecDepth 100000 in
set_option maxHeartbeats 4000000 in
theorem wL_turn {Γ : ao_C} (d : Nat) (hd : 10 ≤ d) (MC MS : Nat) : ∀ n : Nat, (∀ (r0 : Nat) (x1 : Int32) (r2 : Nat) (M : ao_M) (ρ : ao_H) (y : Int32 × ao_S), fL_turn n 0 r0 x1 r2 0 0 0 M ρ = some y → ao_W Γ uL_turn (ao_rm d MC MS) (ao_Q Γ (ao_QI y) MC MS) (ao_dc ρ y.2.2) (ao_ds ρ y.2.2) 0 [some (.ref (Γ.2.2.2 + r0)), some (.int x1), some (.ref (Γ.2.2.2 + r2)), none] [] (M, ρ)) ∧ (∀ (r0 : Nat) (x1 : Int32) (r2 : Nat) (s0 : Int32) (s1 : Int32) (q2 : Nat) (M : ao_M) (ρ : ao_H) (y : Int32 × ao_S), fL_turn n 7 r0 x1 r2 s0 s1 q2 M ρ = some y → ao_W Γ uL_turn (ao_rm d MC MS) (ao_Q Γ (ao_QI y) MC MS) (ao_dc ρ y.2.2) (ao_ds ρ y.2.2) 7 [some (.ref (Γ.2.2.2 + r0)), some (.int x1), some (.ref (Γ.2.2.2 + r2)), none] [.int s0, .int s1, .ref (Γ.2.2.2 + q2)] (M, ρ)) := by
  intro n
  induction n with
  | zero => exact ⟨fun _ _ _ _ _ _ h => ao_no h, fun _ _ _ _ _ _ _ _ _ h => ao_no h⟩
  | succ n ih =>
    refine ⟨?_, ?_⟩
    · intro r0 x1 r2 M ρ y h
      replace h := ao_ifT h rfl
      refine ao_aload_n 2 dL_turn_0 rfl rfl ?_
      refine ao_iconst (v := 0) dL_turn_1 (by decide) ?_
      refine ao_aload_n 0 dL_turn_2 rfl rfl ?_
      refine ao_iload_n 1 dL_turn_3 rfl rfl ?_
      obtain ⟨hk1, h⟩ := ao_some h
      obtain ⟨p2, hp2, h⟩ := ao_bind h
      have e9 : ao_le p2.2.2 y.2.2 := by
        refine ao_csM h (fun wx3 h => (mL_turn n).2 r0 x1 r2 wx3 (0 : Int32) r2 p2.2.1 p2.2.2 _ h) (fun _ h => ?_)
        rcases ao_ifC h with h | h
        · cases h
          exact ao_le_rf _
        · rcases ao_ifC h with h | h
          · cases h
            exact ao_le_rf _
          · exact ao_no h
      refine cx_callVi r0 10 (q := (RX10, TX10, 6)) [.int x1] (aX10_turn (d - 1) (by omega) n r0 x1 M ρ hp2) dL_turn_4 lc_L_36 li_X10_turn ls_X10_turn rfl hk1 rfl rfl (Nat.le_of_ble_eq_true rfl) (ao_hR (by omega) (by decide)) (ao_leC (me_X10_turn n r0 x1 M ρ hp2) e9) (ao_leS (me_X10_turn n r0 x1 M ρ hp2) e9) (fun wx3 e4 => ?_) (fun E5 e4 => ?_)
      · replace h := ao_csL h e4
        exact ih.2 r0 x1 r2 wx3 (0 : Int32) r2 p2.2.1 p2.2.2 _ h
      · replace h := ao_csR h e4
        by_cases c6 : E5 = "java/lang/IllegalArgumentException"
        · subst c6
          replace h := ao_ifT h rfl
          refine cx_catch "java/lang/IllegalArgumentException" [] (⟨0, 9, 12, 19⟩ : ExceptionTableEntry) [(⟨0, 9, 15, 28⟩ : ExceptionTableEntry)] rfl (fun z hz => nomatch hz) (by decide) (by decide) lcl_L_19 (by decide +kernel) (fun a9 => ?_)
          refine ao_astore_n 3 (lo' := [some (.ref (Γ.2.2.2 + r0)), some (.int x1), some (.ref (Γ.2.2.2 + r2)), some (.ref a9)]) dL_turn_12 rfl (Nat.le_of_ble_eq_true rfl) rfl ?_
          refine ao_iconst (v := 1) dL_turn_13 (by decide) ?_
          cases h
          exact ao_ireturn dL_turn_14 rfl rfl ⟨rfl, rfl⟩
        · replace h := ao_ifF h c6
          by_cases c7 : E5 = "java/lang/IllegalStateException"
          · subst c7
            replace h := ao_ifT h rfl
            refine cx_catch "java/lang/IllegalStateException" [(⟨0, 9, 12, 19⟩ : ExceptionTableEntry)] (⟨0, 9, 15, 28⟩ : ExceptionTableEntry) [] rfl (by intro z hz; simp only [List.mem_cons, List.mem_nil_iff, or_false] at hz; rcases hz with rfl <;> first | exact Or.inr ⟨by decide, _, lcl_L_19, by decide⟩) (by decide) (by decide) lcl_L_28 (by decide +kernel) (fun a9 => ?_)
            refine ao_astore_n 3 (lo' := [some (.ref (Γ.2.2.2 + r0)), some (.int x1), some (.ref (Γ.2.2.2 + r2)), some (.ref a9)]) dL_turn_15 rfl (Nat.le_of_ble_eq_true rfl) rfl ?_
            refine ao_iconst (v := 2) dL_turn_16 (by decide) ?_
            cases h
            exact ao_ireturn dL_turn_17 rfl rfl ⟨rfl, rfl⟩
          · replace h := ao_ifF h c7
            exact ao_no h
    · intro r0 x1 r2 s0 s1 q2 M ρ y h
      replace h := ao_ifF h (by decide)
      replace h := ao_ifT h rfl
      refine ao_i2l dL_turn_7 ?_
      obtain ⟨hk8, h⟩ := ao_some h
      obtain ⟨hb9, h⟩ := ao_some h
      refine an_lastore q2 dL_turn_8 hk8 hb9 (fun M10 hM10 => ?_)
      replace h := ao_letD h hM10
      refine ao_goto 18 dL_turn_9 (by decide) ?_
      refine ao_iconst (v := 0) dL_turn_18 (by decide) ?_
      cases h
      exact ao_ireturn dL_turn_19 rfl rfl ⟨rfl, rfl⟩
theorem me_L_turn (n : Nat) (r0 : Nat) (x1 : Int32) (r2 : Nat) (M : ao_M) (ρ : ao_H) {y : Int32 × ao_S} (h : gL_turn n r0 x1 r2 M ρ = some y) : ao_le ρ y.2.2 := (mL_turn n).1 r0 x1 r2 M ρ y h
set_option maxRecDepth 100000 in
set_option maxHeartbeats 4000000 in
theorem aL_turn {Γ : ao_C} (d : Nat) (hd : 10 ≤ d) (n : Nat) (r0 : Nat) (x1 : Int32) (r2 : Nat) (M : ao_M) (ρ : ao_H) {y : Int32 × ao_S} (h : gL_turn n r0 x1 r2 M ρ = some y) : ao_A Γ uL_turn d (ao_dc ρ y.2.2) (ao_ds ρ y.2.2) [.ref (Γ.2.2.2 + r0), .int x1, .ref (Γ.2.2.2 + r2)] (M, ρ) (ao_QI y) := by
  refine ao_ofH (by decide) rfl (ao_cat1 (Nat.le_of_ble_eq_true rfl)) (Nat.le_of_ble_eq_true rfl) ?_
  show ao_W Γ uL_turn (ao_rm d (ao_dc ρ y.2.2) (ao_ds ρ y.2.2)) (ao_Q Γ (ao_QI y) (ao_dc ρ y.2.2) (ao_ds ρ y.2.2)) (ao_dc ρ y.2.2) (ao_ds ρ y.2.2) 0 [some (.ref (Γ.2.2.2 + r0)), some (.int x1), some (.ref (Γ.2.2.2 + r2)), none] [] (M, ρ)
  exact (wL_turn d hd _ _ n).1 r0 x1 r2 M ρ y h

abbrev uL_round : ao_Mi := (yL_round, cL_round, 4, (some .int), [(0, 9, 12, 19)])
def fL_round : Nat → Nat → Nat → Int32 → Nat → Int32 → Int32 → Nat →  ao_M → ao_H → Option (Int32 × ao_S)
  | 0, _, _, _, _, _, _, _, _, _ => none
  | n + 1, pc, r0, x1, r2, s0, s1, q2, M, ρ =>
    if pc = 0 then
      if ρ.2.1 r0 = 20 then
      (gX10_round n r0 x1 M ρ).bind fun p2 =>
      ao_cs p2.1 (fun wx3 => fL_round n 7 r0 x1 r2 wx3 (0 : Int32) r2 p2.2.1 p2.2.2) fun E5 =>
        if E5 = "java/lang/IllegalArgumentException" then
          some ((1 : Int32), p2.2.1, p2.2.2)
        else
        none
      else none
    else if pc = 7 then
      if ρ.2.1 q2 = 3 then
      if ¬ (s1 < 0 ∨ ρ.2.2.1 q2 ≤ s1.toNatClampNeg) then
      ao_let (ao_u M q2 s1.toNatClampNeg s0) fun M9 =>
      some ((0 : Int32), M9, ρ)
      else none
      else none
    else none
def gL_round (n : Nat) (r0 : Nat) (x1 : Int32) (r2 : Nat) (M : ao_M) (ρ : ao_H) : Option (Int32 × ao_S) := fL_round n 0 r0 x1 r2 0 0 0 M ρ
set_option maxRecDepth 100000 in
set_option maxHeartbeats 4000000 in
theorem mL_round : ∀ n : Nat, (∀ (r0 : Nat) (x1 : Int32) (r2 : Nat) (M : ao_M) (ρ : ao_H) (y : Int32 × ao_S), fL_round n 0 r0 x1 r2 0 0 0 M ρ = some y → ao_le ρ y.2.2) ∧ (∀ (r0 : Nat) (x1 : Int32) (r2 : Nat) (s0 : Int32) (s1 : Int32) (q2 : Nat) (M : ao_M) (ρ : ao_H) (y : Int32 × ao_S), fL_round n 7 r0 x1 r2 s0 s1 q2 M ρ = some y → ao_le ρ y.2.2) := by
  intro n
  induction n with
  | zero => exact ⟨fun _ _ _ _ _ _ h => ao_no h, fun _ _ _ _ _ _ _ _ _ h => ao_no h⟩
  | succ n ih =>
    refine ⟨?_, ?_⟩
    · intro r0 x1 r2 M ρ y h
      replace h := ao_ifT h rfl
      obtain ⟨-, h⟩ := ao_some h
      obtain ⟨p2, hp2, h⟩ := ao_bind h
      refine ao_le_tr (me_X10_round n r0 x1 M ρ hp2) ?_
      refine ao_csM h (fun wx3 h => ?_) (fun _ h => ?_)
      · exact ih.2 r0 x1 r2 wx3 (0 : Int32) r2 p2.2.1 p2.2.2 _ h
      · rcases ao_ifC h with h | h
        · cases h
          exact ao_le_rf _
        · exact ao_no h
    · intro r0 x1 r2 s0 s1 q2 M ρ y h
      replace h := ao_ifF h (by decide)
      replace h := ao_ifT h rfl
      obtain ⟨-, h⟩ := ao_some h
      obtain ⟨-, h⟩ := ao_some h
      replace h := ao_letD h rfl
      generalize (ao_u M q2 s1.toNatClampNeg s0) = M9 at h
      cases h
      exact ao_le_rf _
set_option maxRecDepth 100000 in
set_option maxHeartbeats 4000000 in
theorem wL_round {Γ : ao_C} (d : Nat) (hd : 10 ≤ d) (MC MS : Nat) : ∀ n : Nat, (∀ (r0 : Nat) (x1 : Int32) (r2 : Nat) (M : ao_M) (ρ : ao_H) (y : Int32 × ao_S), fL_round n 0 r0 x1 r2 0 0 0 M ρ = some y → ao_W Γ uL_round (ao_rm d MC MS) (ao_Q Γ (ao_QI y) MC MS) (ao_dc ρ y.2.2) (ao_ds ρ y.2.2) 0 [some (.ref (Γ.2.2.2 + r0)), some (.int x1), some (.ref (Γ.2.2.2 + r2)), none] [] (M, ρ)) ∧ (∀ (r0 : Nat) (x1 : Int32) (r2 : Nat) (s0 : Int32) (s1 : Int32) (q2 : Nat) (M : ao_M) (ρ : ao_H) (y : Int32 × ao_S), fL_round n 7 r0 x1 r2 s0 s1 q2 M ρ = some y → ao_W Γ uL_round (ao_rm d MC MS) (ao_Q Γ (ao_QI y) MC MS) (ao_dc ρ y.2.2) (ao_ds ρ y.2.2) 7 [some (.ref (Γ.2.2.2 + r0)), some (.int x1), some (.ref (Γ.2.2.2 + r2)), none] [.int s0, .int s1, .ref (Γ.2.2.2 + q2)] (M, ρ)) := by
  intro n
  induction n with
  | zero => exact ⟨fun _ _ _ _ _ _ h => ao_no h, fun _ _ _ _ _ _ _ _ _ h => ao_no h⟩
  | succ n ih =>
    refine ⟨?_, ?_⟩
    · intro r0 x1 r2 M ρ y h
      replace h := ao_ifT h rfl
      refine ao_aload_n 2 dL_round_0 rfl rfl ?_
      refine ao_iconst (v := 0) dL_round_1 (by decide) ?_
      refine ao_aload_n 0 dL_round_2 rfl rfl ?_
      refine ao_iload_n 1 dL_round_3 rfl rfl ?_
      obtain ⟨hk1, h⟩ := ao_some h
      obtain ⟨p2, hp2, h⟩ := ao_bind h
      have e9 : ao_le p2.2.2 y.2.2 := by
        refine ao_csM h (fun wx3 h => (mL_round n).2 r0 x1 r2 wx3 (0 : Int32) r2 p2.2.1 p2.2.2 _ h) (fun _ h => ?_)
        rcases ao_ifC h with h | h
        · cases h
          exact ao_le_rf _
        · exact ao_no h
      refine cx_callVi r0 10 (q := (RX10, TX10, 6)) [.int x1] (aX10_round (d - 1) (by omega) n r0 x1 M ρ hp2) dL_round_4 lc_L_39 li_X10_round ls_X10_round rfl hk1 rfl rfl (Nat.le_of_ble_eq_true rfl) (ao_hR (by omega) (by decide)) (ao_leC (me_X10_round n r0 x1 M ρ hp2) e9) (ao_leS (me_X10_round n r0 x1 M ρ hp2) e9) (fun wx3 e4 => ?_) (fun E5 e4 => ?_)
      · replace h := ao_csL h e4
        exact ih.2 r0 x1 r2 wx3 (0 : Int32) r2 p2.2.1 p2.2.2 _ h
      · replace h := ao_csR h e4
        by_cases c6 : E5 = "java/lang/IllegalArgumentException"
        · subst c6
          replace h := ao_ifT h rfl
          refine cx_catch "java/lang/IllegalArgumentException" [] (⟨0, 9, 12, 19⟩ : ExceptionTableEntry) [] rfl (fun z hz => nomatch hz) (by decide) (by decide) lcl_L_19 (by decide +kernel) (fun a9 => ?_)
          refine ao_astore_n 3 (lo' := [some (.ref (Γ.2.2.2 + r0)), some (.int x1), some (.ref (Γ.2.2.2 + r2)), some (.ref a9)]) dL_round_12 rfl (Nat.le_of_ble_eq_true rfl) rfl ?_
          refine ao_iconst (v := 1) dL_round_13 (by decide) ?_
          cases h
          exact ao_ireturn dL_round_14 rfl rfl ⟨rfl, rfl⟩
        · replace h := ao_ifF h c6
          exact ao_no h
    · intro r0 x1 r2 s0 s1 q2 M ρ y h
      replace h := ao_ifF h (by decide)
      replace h := ao_ifT h rfl
      refine ao_i2l dL_round_7 ?_
      obtain ⟨hk7, h⟩ := ao_some h
      obtain ⟨hb8, h⟩ := ao_some h
      refine an_lastore q2 dL_round_8 hk7 hb8 (fun M9 hM9 => ?_)
      replace h := ao_letD h hM9
      refine ao_goto 15 dL_round_9 (by decide) ?_
      refine ao_iconst (v := 0) dL_round_15 (by decide) ?_
      cases h
      exact ao_ireturn dL_round_16 rfl rfl ⟨rfl, rfl⟩
theorem me_L_round (n : Nat) (r0 : Nat) (x1 : Int32) (r2 : Nat) (M : ao_M) (ρ : ao_H) {y : Int32 × ao_S} (h : gL_round n r0 x1 r2 M ρ = some y) : ao_le ρ y.2.2 := (mL_round n).1 r0 x1 r2 M ρ y h
set_option maxRecDepth 100000 in
set_option maxHeartbeats 4000000 in
theorem aL_round {Γ : ao_C} (d : Nat) (hd : 10 ≤ d) (n : Nat) (r0 : Nat) (x1 : Int32) (r2 : Nat) (M : ao_M) (ρ : ao_H) {y : Int32 × ao_S} (h : gL_round n r0 x1 r2 M ρ = some y) : ao_A Γ uL_round d (ao_dc ρ y.2.2) (ao_ds ρ y.2.2) [.ref (Γ.2.2.2 + r0), .int x1, .ref (Γ.2.2.2 + r2)] (M, ρ) (ao_QI y) := by
  refine ao_ofH (by decide) rfl (ao_cat1 (Nat.le_of_ble_eq_true rfl)) (Nat.le_of_ble_eq_true rfl) ?_
  show ao_W Γ uL_round (ao_rm d (ao_dc ρ y.2.2) (ao_ds ρ y.2.2)) (ao_Q Γ (ao_QI y) (ao_dc ρ y.2.2) (ao_ds ρ y.2.2)) (ao_dc ρ y.2.2) (ao_ds ρ y.2.2) 0 [some (.ref (Γ.2.2.2 + r0)), some (.int x1), some (.ref (Γ.2.2.2 + r2)), none] [] (M, ρ)
  exact (wL_round d hd _ _ n).1 r0 x1 r2 M ρ y h
