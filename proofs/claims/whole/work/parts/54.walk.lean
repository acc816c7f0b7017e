abbrev uX12_keepRegisters : ao_Mi := (yX12_keepRegisters, cX12_keepRegisters, 4, none, [])
def fX12_keepRegisters : Nat → Nat → Nat → Int32 → Int32 → Int32 →  ao_M → ao_H → Option (ao_M)
  | 0, _, _, _, _, _, _, _ => none
  | n + 1, pc, r0, x1, x2, x3, M, ρ =>
    if pc = 0 then
      fX12_keepRegisters n 2 r0 x1 x2 (0 : Int32) M ρ
    else if pc = 2 then
      if (26 : Int32) ≤ x3 then
        some M
      else
        if ρ.2.1 r0 = 22 then
        (ρ.1 r0 53).bind fun j3 =>
        (gX12_cell r0 x1 x2 x3 M ρ).bind fun p4 =>
        (ρ.1 r0 31).bind fun j5 =>
        if ρ.2.1 j5 = 0 then
        if ¬ (((x1 * (26 : Int32)) + x3) < 0 ∨ ρ.2.2.1 j5 ≤ ((x1 * (26 : Int32)) + x3).toNatClampNeg) then
        if ρ.2.1 j3 = 0 then
        if ¬ (p4.1 < 0 ∨ ρ.2.2.1 j3 ≤ p4.1.toNatClampNeg) then
        ao_let (ao_u p4.2 j3 p4.1.toNatClampNeg (p4.2 j5 ((x1 * (26 : Int32)) + x3).toNatClampNeg)) fun M10 =>
        ao_let (x3 + (1 : Int32)) fun v11 =>
        fX12_keepRegisters n 2 r0 x1 x2 v11 M10 ρ
        else none
        else none
        else none
        else none
        else none
    else none
def gX12_keepRegisters (n : Nat) (r0 : Nat) (x1 : Int32) (x2 : Int32) (M : ao_M) (ρ : ao_H) : Option (ao_M) := fX12_keepRegisters n 0 r0 x1 x2 0 M ρ
set_option maxRecDepth 100000 in
set_option maxHeartbeats 4000000 in
theorem wX12_keepRegisters {Γ : ao_C} {ρ : ao_H} (d : Nat) (hd : 1 ≤ d) : ∀ n : Nat, (∀ (r0 : Nat) (x1 : Int32) (x2 : Int32) (M : ao_M) (y : ao_M), fX12_keepRegisters n 0 r0 x1 x2 0 M ρ = some y → ao_W Γ uX12_keepRegisters (ao_rm d 0 0) (ao_Q Γ (ao_PV ρ y) 0 0) 0 0 0 [some (.ref (Γ.2.2.2 + r0)), some (.int x1), some (.int x2), none] [] (M, ρ)) ∧ (∀ (r0 : Nat) (x1 : Int32) (x2 : Int32) (x3 : Int32) (M : ao_M) (y : ao_M), fX12_keepRegisters n 2 r0 x1 x2 x3 M ρ = some y → ao_W Γ uX12_keepRegisters (ao_rm d 0 0) (ao_Q Γ (ao_PV ρ y) 0 0) 0 0 2 [some (.ref (Γ.2.2.2 + r0)), some (.int x1), some (.int x2), some (.int x3)] [] (M, ρ)) := by
  intro n
  induction n with
  | zero => exact ⟨fun _ _ _ _ _ h => ao_no h, fun _ _ _ _ _ _ h => ao_no h⟩
  | succ n ih =>
    refine ⟨?_, ?_⟩
    · intro r0 x1 x2 M y h
      replace h := ao_ifT h rfl
      refine ao_iconst (v := 0) dX12_keepRegisters_0 (by decide) ?_
      refine ao_istore_n 3 (lo' := [some (.ref (Γ.2.2.2 + r0)), some (.int x1), some (.int x2), some (.int (0 : Int32))]) dX12_keepRegisters_1 rfl (Nat.le_of_ble_eq_true rfl) rfl ?_
      exact ih.2 r0 x1 x2 (0 : Int32) M _ h
    · intro r0 x1 x2 x3 M y h
      replace h := ao_ifF h (by decide)
      replace h := ao_ifT h rfl
      refine ao_iload_n 3 dX12_keepRegisters_2 rfl rfl ?_
      refine ao_bipush (v := 26) dX12_keepRegisters_3 (by decide) ?_
      refine ao_icmp_ge 37 dX12_keepRegisters_5 (by decide) (fun c1 => ?_) (fun c1 => ?_)
      · replace h := ao_ifT h c1
        cases h
        exact ao_return dX12_keepRegisters_37 rfl ⟨rfl, rfl⟩
      · replace h := ao_ifF h c1
        refine ao_aload_n 0 dX12_keepRegisters_8 rfl rfl ?_
        obtain ⟨hk2, h⟩ := ao_some h
        obtain ⟨j3, hj3, h⟩ := ao_bind h
        refine an_getR r0 12 53 (q := (RX12, TX12, 83)) dX12_keepRegisters_9 rfl hk2 (Nat.le_of_ble_eq_true rfl) rfl lf_X12_259 hj3 ?_
        refine ao_aload_n 0 dX12_keepRegisters_12 rfl rfl ?_
        refine ao_iload_n 1 dX12_keepRegisters_13 rfl rfl ?_
        refine ao_iload_n 2 dX12_keepRegisters_14 rfl rfl ?_
        refine ao_iload_n 3 dX12_keepRegisters_15 rfl rfl ?_
        obtain ⟨p4, hp4, h⟩ := ao_bind h
        refine an_callVi r0 12 (q := (RX12, TX12, 83)) [.int x1, .int x2, .int x3] (aX12_cell (d - 1) (by omega) r0 x1 x2 x3 M ρ hp4) dX12_keepRegisters_16 lc_X12_357 li_X12_cell ls_X12_cell rfl hk2 rfl rfl (Nat.le_of_ble_eq_true rfl) (ao_hR (by omega) (by decide)) ?_
        refine ao_aload_n 0 dX12_keepRegisters_19 rfl rfl ?_
        obtain ⟨j5, hj5, h⟩ := ao_bind h
        refine an_getR r0 12 31 (q := (RX12, TX12, 83)) dX12_keepRegisters_20 rfl hk2 (Nat.le_of_ble_eq_true rfl) rfl lf_X12_193 hj5 ?_
        refine ao_iload_n 1 dX12_keepRegisters_23 rfl rfl ?_
        refine ao_bipush (v := 26) dX12_keepRegisters_24 (by decide) ?_
        refine ao_imul dX12_keepRegisters_26 ?_
        refine ao_iload_n 3 dX12_keepRegisters_27 rfl rfl ?_
        refine ao_iadd dX12_keepRegisters_28 ?_
        obtain ⟨hk6, h⟩ := ao_some h
        obtain ⟨hb7, h⟩ := ao_some h
        refine an_iaload j5 dX12_keepRegisters_29 hk6 hb7 ?_
        obtain ⟨hk8, h⟩ := ao_some h
        obtain ⟨hb9, h⟩ := ao_some h
        refine an_iastore j3 dX12_keepRegisters_30 hk8 hb9 (fun M10 hM10 => ?_)
        replace h := ao_letD h hM10
        obtain ⟨v11, hv11⟩ : ∃ z : Int32, z = x3 + (1 : Int32) := ⟨_, rfl⟩
        replace h := ao_letD h hv11
        refine ao_iinc 3 (v := v11) (lo' := [some (.ref (Γ.2.2.2 + r0)), some (.int x1), some (.int x2), some (.int v11)]) dX12_keepRegisters_31 rfl (by rw [hv11]; rfl) (Nat.le_of_ble_eq_true rfl) rfl ?_
        refine ao_goto 2 dX12_keepRegisters_34 (by decide) ?_
        exact ih.2 r0 x1 x2 v11 M10 _ h
set_option maxRecDepth 100000 in
set_option maxHeartbeats 4000000 in
theorem aX12_keepRegisters {Γ : ao_C} (d : Nat) (hd : 1 ≤ d) (n : Nat) (r0 : Nat) (x1 : Int32) (x2 : Int32) (M : ao_M) (ρ : ao_H) {y : ao_M} (h : gX12_keepRegisters n r0 x1 x2 M ρ = some y) : ao_A Γ uX12_keepRegisters d 0 0 [.ref (Γ.2.2.2 + r0), .int x1, .int x2] (M, ρ) (ao_PV ρ y) := by
  refine ao_of (by decide) (ao_cat1 (Nat.le_of_ble_eq_true rfl)) (Nat.le_of_ble_eq_true rfl) ?_
  show ao_W Γ uX12_keepRegisters (ao_rm d 0 0) (ao_Q Γ (ao_PV ρ y) 0 0) 0 0 0 [some (.ref (Γ.2.2.2 + r0)), some (.int x1), some (.int x2), none] [] (M, ρ)
  exact (wX12_keepRegisters d hd n).1 r0 x1 x2 M y h

abbrev uX12_openLevel : ao_Mi := (yX12_openLevel, cX12_openLevel, 6, none, [])
def gX12_openLevel (n : Nat) (r0 : Nat) (x1 : Int32) (x2 : Int32) (x3 : Int32) (M : ao_M) (ρ : ao_H) : Option (ao_M) :=
  if ρ.2.1 r0 = 22 then
  (ρ.1 r0 34).bind fun j2 =>
  if ρ.2.1 j2 = 0 then
  if ¬ (x1 < 0 ∨ ρ.2.2.1 j2 ≤ x1.toNatClampNeg) then
  ao_let (M j2 x1.toNatClampNeg) fun v5 =>
  (gX12_clearLevel n r0 x1 v5 M ρ).bind fun p6 =>
  (gX12_level r0 x1 v5 p6 ρ).bind fun p7 =>
  ao_let p7.1 fun v8 =>
  (ρ.1 r0 48).bind fun j9 =>
  (ρ.1 r0 30).bind fun j10 =>
  if ρ.2.1 j10 = 0 then
  if ¬ (x1 < 0 ∨ ρ.2.2.1 j10 ≤ x1.toNatClampNeg) then
  if ρ.2.1 j9 = 0 then
  if ¬ (v8 < 0 ∨ ρ.2.2.1 j9 ≤ v8.toNatClampNeg) then
  ao_let (ao_u p7.2 j9 v8.toNatClampNeg (p7.2 j10 x1.toNatClampNeg)) fun M15 =>
  (ρ.1 r0 49).bind fun j16 =>
  if ρ.2.1 j16 = 0 then
  if ¬ (v8 < 0 ∨ ρ.2.2.1 j16 ≤ v8.toNatClampNeg) then
  ao_let (ao_u M15 j16 v8.toNatClampNeg x2) fun M19 =>
  (ρ.1 r0 50).bind fun j20 =>
  if ρ.2.1 j20 = 0 then
  if ¬ (v8 < 0 ∨ ρ.2.2.1 j20 ≤ v8.toNatClampNeg) then
  ao_let (ao_u M19 j20 v8.toNatClampNeg x3) fun M23 =>
  (ρ.1 r0 54).bind fun j24 =>
  if ρ.2.1 j24 = 2 then
  if ¬ (v8 < 0 ∨ ρ.2.2.1 j24 ≤ v8.toNatClampNeg) then
  ao_let (ao_u M23 j24 v8.toNatClampNeg (0 : Int32)) fun M27 =>
  (ρ.1 r0 51).bind fun j28 =>
  (ρ.1 r0 35).bind fun j29 =>
  if ρ.2.1 j29 = 0 then
  if ¬ (x1 < 0 ∨ ρ.2.2.1 j29 ≤ x1.toNatClampNeg) then
  if ρ.2.1 j28 = 0 then
  if ¬ (v8 < 0 ∨ ρ.2.2.1 j28 ≤ v8.toNatClampNeg) then
  ao_let (ao_u M27 j28 v8.toNatClampNeg (M27 j29 x1.toNatClampNeg)) fun M34 =>
  (ρ.1 r0 52).bind fun j35 =>
  (ρ.1 r0 36).bind fun j36 =>
  if ρ.2.1 j36 = 0 then
  if ¬ (x1 < 0 ∨ ρ.2.2.1 j36 ≤ x1.toNatClampNeg) then
  if ρ.2.1 j35 = 0 then
  if ¬ (v8 < 0 ∨ ρ.2.2.1 j35 ≤ v8.toNatClampNeg) then
  ao_let (ao_u M34 j35 v8.toNatClampNeg (M34 j36 x1.toNatClampNeg)) fun M41 =>
  (gX12_keepRegisters n r0 x1 v5 M41 ρ).bind fun p42 =>
  ao_let (ao_u p42 j2 x1.toNatClampNeg ((p42 j2 x1.toNatClampNeg) + (1 : Int32))) fun M43 =>
  some M43
  else none
  else none
  else none
  else none
  else none
  else none
  else none
  else none
  else none
  else none
  else none
  else none
  else none
  else none
  else none
  else none
  else none
  else none
  else none
  else none
  else none
set_option maxRecDepth 100000 in
set_option maxHeartbeats 4000000 in
theorem aX12_openLevel {Γ : ao_C} (d : Nat) (hd : 2 ≤ d) (n : Nat) (r0 : Nat) (x1 : Int32) (x2 : Int32) (x3 : Int32) (M : ao_M) (ρ : ao_H) {y : ao_M} (h : gX12_openLevel n r0 x1 x2 x3 M ρ = some y) : ao_A Γ uX12_openLevel d 0 0 [.ref (Γ.2.2.2 + r0), .int x1, .int x2, .int x3] (M, ρ) (ao_PV ρ y) := by
  refine ao_of (by decide) (ao_cat1 (Nat.le_of_ble_eq_true rfl)) (Nat.le_of_ble_eq_true rfl) ?_
  show ao_W Γ uX12_openLevel (ao_rm d 0 0) (ao_Q Γ (ao_PV ρ y) 0 0) 0 0 0 [some (.ref (Γ.2.2.2 + r0)), some (.int x1), some (.int x2), some (.int x3), none, none] [] (M, ρ)
  unfold gX12_openLevel at h
  refine ao_aload_n 0 dX12_openLevel_0 rfl rfl ?_
  obtain ⟨hk1, h⟩ := ao_some h
  obtain ⟨j2, hj2, h⟩ := ao_bind h
  refine an_getR r0 12 34 (q := (RX12, TX12, 83)) dX12_openLevel_1 rfl hk1 (Nat.le_of_ble_eq_true rfl) rfl lf_X12_202 hj2 ?_
  refine ao_iload_n 1 dX12_openLevel_4 rfl rfl ?_
  obtain ⟨hk3, h⟩ := ao_some h
  obtain ⟨hb4, h⟩ := ao_some h
  refine an_iaload j2 dX12_openLevel_5 hk3 hb4 ?_
  refine an_topi (fun v5 hv5 => ?_)
  replace h := ao_letD h hv5
  refine ao_istore 4 (lo' := [some (.ref (Γ.2.2.2 + r0)), some (.int x1), some (.int x2), some (.int x3), some (.int v5), none]) dX12_openLevel_6 (Nat.le_of_ble_eq_true rfl) rfl ?_
  refine ao_aload_n 0 dX12_openLevel_8 rfl rfl ?_
  refine ao_iload_n 1 dX12_openLevel_9 rfl rfl ?_
  refine ao_iload 4 dX12_openLevel_10 rfl ?_
  obtain ⟨p6, hp6, h⟩ := ao_bind h
  refine an_callVv r0 12 (q := (RX12, TX12, 83)) [.int x1, .int v5] (aX12_clearLevel (d - 1) (by omega) _ r0 x1 v5 M ρ hp6) dX12_openLevel_12 lc_X12_353 li_X12_clearLevel ls_X12_clearLevel rfl hk1 rfl rfl (Nat.le_of_ble_eq_true rfl) (ao_hR (by omega) (by decide)) ?_
  refine ao_aload_n 0 dX12_openLevel_15 rfl rfl ?_
  refine ao_iload_n 1 dX12_openLevel_16 rfl rfl ?_
  refine ao_iload 4 dX12_openLevel_17 rfl ?_
  obtain ⟨p7, hp7, h⟩ := ao_bind h
  refine an_callVi r0 12 (q := (RX12, TX12, 83)) [.int x1, .int v5] (aX12_level (d - 1) (by omega) r0 x1 v5 p6 ρ hp7) dX12_openLevel_19 lc_X12_360 li_X12_level ls_X12_level rfl hk1 rfl rfl (Nat.le_of_ble_eq_true rfl) (ao_hR (by omega) (by decide)) ?_
  refine an_topi (fun v8 hv8 => ?_)
  replace h := ao_letD h hv8
  refine ao_istore 5 (lo' := [some (.ref (Γ.2.2.2 + r0)), some (.int x1), some (.int x2), some (.int x3), some (.int v5), some (.int v8)]) dX12_openLevel_22 (Nat.le_of_ble_eq_true rfl) rfl ?_
  refine ao_aload_n 0 dX12_openLevel_24 rfl rfl ?_
  obtain ⟨j9, hj9, h⟩ := ao_bind h
  refine an_getR r0 12 48 (q := (RX12, TX12, 83)) dX12_openLevel_25 rfl hk1 (Nat.le_of_ble_eq_true rfl) rfl lf_X12_244 hj9 ?_
  refine ao_iload 5 dX12_openLevel_28 rfl ?_
  refine ao_aload_n 0 dX12_openLevel_30 rfl rfl ?_
  obtain ⟨j10, hj10, h⟩ := ao_bind h
  refine an_getR r0 12 30 (q := (RX12, TX12, 83)) dX12_openLevel_31 rfl hk1 (Nat.le_of_ble_eq_true rfl) rfl lf_X12_190 hj10 ?_
  refine ao_iload_n 1 dX12_openLevel_34 rfl rfl ?_
  obtain ⟨hk11, h⟩ := ao_some h
  obtain ⟨hb12, h⟩ := ao_some h
  refine an_iaload j10 dX12_openLevel_35 hk11 hb12 ?_
  obtain ⟨hk13, h⟩ := ao_some h
  obtain ⟨hb14, h⟩ := ao_some h
  refine an_iastore j9 dX12_openLevel_36 hk13 hb14 (fun M15 hM15 => ?_)
  replace h := ao_letD h hM15
  refine ao_aload_n 0 dX12_openLevel_37 rfl rfl ?_
  obtain ⟨j16, hj16, h⟩ := ao_bind h
  refine an_getR r0 12 49 (q := (RX12, TX12, 83)) dX12_openLevel_38 rfl hk1 (Nat.le_of_ble_eq_true rfl) rfl lf_X12_247 hj16 ?_
  refine ao_iload 5 dX12_openLevel_41 rfl ?_
  refine ao_iload_n 2 dX12_openLevel_43 rfl rfl ?_
  obtain ⟨hk17, h⟩ := ao_some h
  obtain ⟨hb18, h⟩ := ao_some h
  refine an_iastore j16 dX12_openLevel_44 hk17 hb18 (fun M19 hM19 => ?_)
  replace h := ao_letD h hM19
  refine ao_aload_n 0 dX12_openLevel_45 rfl rfl ?_
  obtain ⟨j20, hj20, h⟩ := ao_bind h
  refine an_getR r0 12 50 (q := (RX12, TX12, 83)) dX12_openLevel_46 rfl hk1 (Nat.le_of_ble_eq_true rfl) rfl lf_X12_250 hj20 ?_
  refine ao_iload 5 dX12_openLevel_49 rfl ?_
  refine ao_iload_n 3 dX12_openLevel_51 rfl rfl ?_
  obtain ⟨hk21, h⟩ := ao_some h
  obtain ⟨hb22, h⟩ := ao_some h
  refine an_iastore j20 dX12_openLevel_52 hk21 hb22 (fun M23 hM23 => ?_)
  replace h := ao_letD h hM23
  refine ao_aload_n 0 dX12_openLevel_53 rfl rfl ?_
  obtain ⟨j24, hj24, h⟩ := ao_bind h
  refine an_getR r0 12 54 (q := (RX12, TX12, 83)) dX12_openLevel_54 rfl hk1 (Nat.le_of_ble_eq_true rfl) rfl lf_X12_262 hj24 ?_
  refine ao_iload 5 dX12_openLevel_57 rfl ?_
  refine ao_iconst (v := 0) dX12_openLevel_59 (by decide) ?_
  obtain ⟨hk25, h⟩ := ao_some h
  obtain ⟨hb26, h⟩ := ao_some h
  refine an_zastore j24 dX12_openLevel_60 hk25 hb26 rfl (fun M27 hM27 => ?_)
  replace h := ao_letD h hM27
  refine ao_aload_n 0 dX12_openLevel_61 rfl rfl ?_
  obtain ⟨j28, hj28, h⟩ := ao_bind h
  refine an_getR r0 12 51 (q := (RX12, TX12, 83)) dX12_openLevel_62 rfl hk1 (Nat.le_of_ble_eq_true rfl) rfl lf_X12_253 hj28 ?_
  refine ao_iload 5 dX12_openLevel_65 rfl ?_
  refine ao_aload_n 0 dX12_openLevel_67 rfl rfl ?_
  obtain ⟨j29, hj29, h⟩ := ao_bind h
  refine an_getR r0 12 35 (q := (RX12, TX12, 83)) dX12_openLevel_68 rfl hk1 (Nat.le_of_ble_eq_true rfl) rfl lf_X12_205 hj29 ?_
  refine ao_iload_n 1 dX12_openLevel_71 rfl rfl ?_
  obtain ⟨hk30, h⟩ := ao_some h
  obtain ⟨hb31, h⟩ := ao_some h
  refine an_iaload j29 dX12_openLevel_72 hk30 hb31 ?_
  obtain ⟨hk32, h⟩ := ao_some h
  obtain ⟨hb33, h⟩ := ao_some h
  refine an_iastore j28 dX12_openLevel_73 hk32 hb33 (fun M34 hM34 => ?_)
  replace h := ao_letD h hM34
  refine ao_aload_n 0 dX12_openLevel_74 rfl rfl ?_
  obtain ⟨j35, hj35, h⟩ := ao_bind h
  refine an_getR r0 12 52 (q := (RX12, TX12, 83)) dX12_openLevel_75 rfl hk1 (Nat.le_of_ble_eq_true rfl) rfl lf_X12_256 hj35 ?_
  refine ao_iload 5 dX12_openLevel_78 rfl ?_
  refine ao_aload_n 0 dX12_openLevel_80 rfl rfl ?_
  obtain ⟨j36, hj36, h⟩ := ao_bind h
  refine an_getR r0 12 36 (q := (RX12, TX12, 83)) dX12_openLevel_81 rfl hk1 (Nat.le_of_ble_eq_true rfl) rfl lf_X12_208 hj36 ?_
  refine ao_iload_n 1 dX12_openLevel_84 rfl rfl ?_
  obtain ⟨hk37, h⟩ := ao_some h
  obtain ⟨hb38, h⟩ := ao_some h
  refine an_iaload j36 dX12_openLevel_85 hk37 hb38 ?_
  obtain ⟨hk39, h⟩ := ao_some h
  obtain ⟨hb40, h⟩ := ao_some h
  refine an_iastore j35 dX12_openLevel_86 hk39 hb40 (fun M41 hM41 => ?_)
  replace h := ao_letD h hM41
  refine ao_aload_n 0 dX12_openLevel_87 rfl rfl ?_
  refine ao_iload_n 1 dX12_openLevel_88 rfl rfl ?_
  refine ao_iload 4 dX12_openLevel_89 rfl ?_
  obtain ⟨p42, hp42, h⟩ := ao_bind h
  refine an_callVv r0 12 (q := (RX12, TX12, 83)) [.int x1, .int v5] (aX12_keepRegisters (d - 1) (by omega) _ r0 x1 v5 M41 ρ hp42) dX12_openLevel_91 lc_X12_363 li_X12_keepRegisters ls_X12_keepRegisters rfl hk1 rfl rfl (Nat.le_of_ble_eq_true rfl) (ao_hR (by omega) (by decide)) ?_
  refine ao_aload_n 0 dX12_openLevel_94 rfl rfl ?_
  refine an_getR r0 12 34 (q := (RX12, TX12, 83)) dX12_openLevel_95 rfl hk1 (Nat.le_of_ble_eq_true rfl) rfl lf_X12_202 hj2 ?_
  refine ao_iload_n 1 dX12_openLevel_98 rfl rfl ?_
  refine ao_dup2 dX12_openLevel_99 rfl rfl ?_
  refine an_iaload j2 dX12_openLevel_100 hk3 hb4 ?_
  refine ao_iconst (v := 1) dX12_openLevel_101 (by decide) ?_
  refine ao_iadd dX12_openLevel_102 ?_
  refine an_iastore j2 dX12_openLevel_103 hk3 hb4 (fun M43 hM43 => ?_)
  replace h := ao_letD h hM43
  cases h
  exact ao_return dX12_openLevel_104 rfl ⟨rfl, rfl⟩

abbrev uX12_isEager : ao_Mi := (yX12_isEager, cX12_isEager, 1, (some .boolean), [])
def fX12_isEager : Nat → Nat → Nat →  ao_M → ao_H → Option (Int32 × ao_M)
  | 0, _, _, _, _ => none
  | n + 1, pc, r0, M, ρ =>
    if pc = 0 then
      if ρ.2.1 r0 = 22 then
      if (M r0 27) = (3 : Int32) then
        fX12_isEager n 16 r0 M ρ
      else
        if (M r0 27) = (4 : Int32) then
          fX12_isEager n 16 r0 M ρ
        else
          some ((0 : Int32), M)
      else none
    else if pc = 16 then
      some ((1 : Int32), M)
    else none
def gX12_isEager (n : Nat) (r0 : Nat) (M : ao_M) (ρ : ao_H) : Option (Int32 × ao_M) := fX12_isEager n 0 r0 M ρ
set_option maxRecDepth 100000 in
set_option maxHeartbeats 4000000 in
theorem wX12_isEager {Γ : ao_C} {ρ : ao_H} (d : Nat) (hd : 0 ≤ d) : ∀ n : Nat, (∀ (r0 : Nat) (M : ao_M) (y : Int32 × ao_M), fX12_isEager n 0 r0 M ρ = some y → ao_W Γ uX12_isEager (ao_rm d 0 0) (ao_Q Γ (ao_PI ρ y) 0 0) 0 0 0 [some (.ref (Γ.2.2.2 + r0))] [] (M, ρ)) ∧ (∀ (r0 : Nat) (M : ao_M) (y : Int32 × ao_M), fX12_isEager n 16 r0 M ρ = some y → ao_W Γ uX12_isEager (ao_rm d 0 0) (ao_Q Γ (ao_PI ρ y) 0 0) 0 0 16 [some (.ref (Γ.2.2.2 + r0))] [] (M, ρ)) := by
  intro n
  induction n with
  | zero => exact ⟨fun _ _ _ h => ao_no h, fun _ _ _ h => ao_no h⟩
  | succ n ih =>
    refine ⟨?_, ?_⟩
    · intro r0 M y h
      replace h := ao_ifT h rfl
      refine ao_aload_n 0 dX12_isEager_0 rfl rfl ?_
      obtain ⟨hk1, h⟩ := ao_some h
      refine an_getI r0 12 27 (q := (RX12, TX12, 83)) dX12_isEager_1 rfl hk1 (Nat.le_of_ble_eq_true rfl) rfl lf_X12_332 ?_
      refine ao_iconst (v := 3) dX12_isEager_4 (by decide) ?_
      refine ao_icmp_eq 16 dX12_isEager_5 (by decide) (fun c2 => ?_) (fun c2 => ?_)
      · replace h := ao_ifT h c2
        exact ih.2 r0 M _ h
      · replace h := ao_ifF h c2
        refine ao_aload_n 0 dX12_isEager_8 rfl rfl ?_
        refine an_getI r0 12 27 (q := (RX12, TX12, 83)) dX12_isEager_9 rfl hk1 (Nat.le_of_ble_eq_true rfl) rfl lf_X12_332 ?_
        refine ao_iconst (v := 4) dX12_isEager_12 (by decide) ?_
        refine ao_icmp_ne 20 dX12_isEager_13 (by decide) (fun c3 => ?_) (fun c3 => ?_)
        · replace h := ao_ifF h c3
          refine ao_iconst (v := 0) dX12_isEager_20 (by decide) ?_
          cases h
          exact ao_ireturn dX12_isEager_21 rfl rfl ⟨rfl, rfl⟩
        · replace h := ao_ifT h c3
          exact ih.2 r0 M _ h
    · intro r0 M y h
      replace h := ao_ifF h (by decide)
      replace h := ao_ifT h rfl
      refine ao_iconst (v := 1) dX12_isEager_16 (by decide) ?_
      refine ao_goto 21 dX12_isEager_17 (by decide) ?_
      cases h
      exact ao_ireturn dX12_isEager_21 rfl rfl ⟨rfl, rfl⟩
set_option maxRecDepth 100000 in
set_option maxHeartbeats 4000000 in
theorem aX12_isEager {Γ : ao_C} (d : Nat) (hd : 0 ≤ d) (n : Nat) (r0 : Nat) (M : ao_M) (ρ : ao_H) {y : Int32 × ao_M} (h : gX12_isEager n r0 M ρ = some y) : ao_A Γ uX12_isEager d 0 0 [.ref (Γ.2.2.2 + r0)] (M, ρ) (ao_PI ρ y) := by
  refine ao_of (by decide) (ao_cat1 (Nat.le_of_ble_eq_true rfl)) (Nat.le_of_ble_eq_true rfl) ?_
  show ao_W Γ uX12_isEager (ao_rm d 0 0) (ao_Q Γ (ao_PI ρ y) 0 0) 0 0 0 [some (.ref (Γ.2.2.2 + r0))] [] (M, ρ)
  exact (wX12_isEager d hd n).1 r0 M y h

abbrev uX12_giveReads : ao_Mi := (yX12_giveReads, cX12_giveReads, 6, none, [])
def fX12_giveReads : Nat → Nat → Nat → Int32 → Int32 → Int32 → Int32 →  ao_M → ao_H → Option (ao_M)
  | 0, _, _, _, _, _, _, _, _ => none
  | n + 1, pc, r0, x1, x2, x3, x4, M, ρ =>
    if pc = 0 then
      if x2 = 0 then
        some M
      else
        fX12_giveReads n 5 r0 x1 x2 0 0 M ρ
    else if pc = 5 then
      fX12_giveReads n 10 r0 x1 x2 (-1 : Int32) (0 : Int32) M ρ
    else if pc = 10 then
      if (26 : Int32) ≤ x4 then
        if 0 ≤ x3 then
          if ρ.2.1 r0 = 22 then
          (gX12_cell r0 x1 x2 x3 M ρ).bind fun p5 =>
          ao_let p5.1 fun v6 =>
          (gX12_cell r0 x1 (x2 - (1 : Int32)) x3 p5.2 ρ).bind fun p7 =>
          ao_let p7.1 fun v8 =>
          (ρ.1 r0 55).bind fun j9 =>
          if ρ.2.1 j9 = 2 then
          if ¬ (v6 < 0 ∨ ρ.2.2.1 j9 ≤ v6.toNatClampNeg) then
          ao_let (ao_u p7.2 j9 v6.toNatClampNeg (0 : Int32)) fun M12 =>
          if ¬ (v8 < 0 ∨ ρ.2.2.1 j9 ≤ v8.toNatClampNeg) then
          if (M12 j9 v8.toNatClampNeg) = 0 then
            ao_let (ao_u M12 j9 v8.toNatClampNeg (1 : Int32)) fun M15 =>
            (ρ.1 r0 57).bind fun j16 =>
            if ρ.2.1 j16 = 0 then
            if ¬ (v6 < 0 ∨ ρ.2.2.1 j16 ≤ v6.toNatClampNeg) then
            if ¬ (v8 < 0 ∨ ρ.2.2.1 j16 ≤ v8.toNatClampNeg) then
            ao_let (ao_u M15 j16 v8.toNatClampNeg (M15 j16 v6.toNatClampNeg)) fun M20 =>
            (ρ.1 r0 58).bind fun j21 =>
            if ρ.2.1 j21 = 0 then
            if ¬ (v6 < 0 ∨ ρ.2.2.1 j21 ≤ v6.toNatClampNeg) then
            if ¬ (v8 < 0 ∨ ρ.2.2.1 j21 ≤ v8.toNatClampNeg) then
            ao_let (ao_u M20 j21 v8.toNatClampNeg (M20 j21 v6.toNatClampNeg)) fun M25 =>
            (ρ.1 r0 59).bind fun j26 =>
            if ρ.2.1 j26 = 0 then
            if ¬ (v8 < 0 ∨ ρ.2.2.1 j26 ≤ v8.toNatClampNeg) then
            ao_let (ao_u M25 j26 v8.toNatClampNeg (M25 r0 64)) fun M29 =>
            ao_let (ao_u M29 r0 64 ((M29 r0 64) + (1 : Int32))) fun M30 =>
            fX12_giveReads n 5 r0 x1 x2 0 0 M30 ρ
            else none
            else none
            else none
            else none
            else none
            else none
            else none
            else none
          else
            fX12_giveReads n 5 r0 x1 x2 0 0 M12 ρ
          else none
          else none
          else none
          else none
        else
          some M
      else
        if ρ.2.1 r0 = 22 then
        (ρ.1 r0 55).bind fun j32 =>
        (gX12_cell r0 x1 x2 x4 M ρ).bind fun p33 =>
        if ρ.2.1 j32 = 2 then
        if ¬ (p33.1 < 0 ∨ ρ.2.2.1 j32 ≤ p33.1.toNatClampNeg) then
        if (p33.2 j32 p33.1.toNatClampNeg) = 0 then
          fX12_giveReads n 68 r0 x1 x2 x3 x4 p33.2 ρ
        else
          if x3 < 0 then
            fX12_giveReads n 65 r0 x1 x2 x3 x4 p33.2 ρ
          else
            (ρ.1 r0 59).bind fun j38 =>
            (gX12_cell r0 x1 x2 x4 p33.2 ρ).bind fun p39 =>
            if ρ.2.1 j38 = 0 then
            if ¬ (p39.1 < 0 ∨ ρ.2.2.1 j38 ≤ p39.1.toNatClampNeg) then
            (gX12_cell r0 x1 x2 x3 p39.2 ρ).bind fun p42 =>
            if ¬ (p42.1 < 0 ∨ ρ.2.2.1 j38 ≤ p42.1.toNatClampNeg) then
            if (p42.2 j38 p42.1.toNatClampNeg) ≤ (p39.2 j38 p39.1.toNatClampNeg) then
              fX12_giveReads n 68 r0 x1 x2 x3 x4 p42.2 ρ
            else
              fX12_giveReads n 65 r0 x1 x2 x3 x4 p42.2 ρ
            else none
            else none
            else none
        else none
        else none
        else none
    else if pc = 65 then
      fX12_giveReads n 68 r0 x1 x2 x4 x4 M ρ
    else if pc = 68 then
      ao_let (x4 + (1 : Int32)) fun v45 =>
      fX12_giveReads n 10 r0 x1 x2 x3 v45 M ρ
    else none
def gX12_giveReads (n : Nat) (r0 : Nat) (x1 : Int32) (x2 : Int32) (M : ao_M) (ρ : ao_H) : Option (ao_M) := fX12_giveReads n 0 r0 x1 x2 0 0 M ρ
set_option maxRecDepth 100000 in
set_option maxHeartbeats 4000000 in
theorem wX12_giveReads {Γ : ao_C} {ρ : ao_H} (d : Nat) (hd : 1 ≤ d) : ∀ n : Nat, (∀ (r0 : Nat) (x1 : Int32) (x2 : Int32) (M : ao_M) (y : ao_M), fX12_giveReads n 0 r0 x1 x2 0 0 M ρ = some y → ao_W Γ uX12_giveReads (ao_rm d 0 0) (ao_Q Γ (ao_PV ρ y) 0 0) 0 0 0 [some (.ref (Γ.2.2.2 + r0)), some (.int x1), some (.int x2), none, none, none] [] (M, ρ)) ∧ (∀ (r0 : Nat) (x1 : Int32) (x2 : Int32) (M : ao_M) (y : ao_M), fX12_giveReads n 5 r0 x1 x2 0 0 M ρ = some y → ao_W Γ uX12_giveReads (ao_rm d 0 0) (ao_Q Γ (ao_PV ρ y) 0 0) 0 0 5 [some (.ref (Γ.2.2.2 + r0)), some (.int x1), some (.int x2), none, none, none] [] (M, ρ)) ∧ (∀ (r0 : Nat) (x1 : Int32) (x2 : Int32) (x3 : Int32) (x4 : Int32) (M : ao_M) (y : ao_M), fX12_giveReads n 10 r0 x1 x2 x3 x4 M ρ = some y → ao_W Γ uX12_giveReads (ao_rm d 0 0) (ao_Q Γ (ao_PV ρ y) 0 0) 0 0 10 [some (.ref (Γ.2.2.2 + r0)), some (.int x1), some (.int x2), some (.int x3), some (.int x4), none] [] (M, ρ)) ∧ (∀ (r0 : Nat) (x1 : Int32) (x2 : Int32) (x3 : Int32) (x4 : Int32) (M : ao_M) (y : ao_M), fX12_giveReads n 65 r0 x1 x2 x3 x4 M ρ = some y → ao_W Γ uX12_giveReads (ao_rm d 0 0) (ao_Q Γ (ao_PV ρ y) 0 0) 0 0 65 [some (.ref (Γ.2.2.2 + r0)), some (.int x1), some (.int x2), some (.int x3), some (.int x4), none] [] (M, ρ)) ∧ (∀ (r0 : Nat) (x1 : Int32) (x2 : Int32) (x3 : Int32) (x4 : Int32) (M : ao_M) (y : ao_M), fX12_giveReads n 68 r0 x1 x2 x3 x4 M ρ = some y → ao_W Γ uX12_giveReads (ao_rm d 0 0) (ao_Q Γ (ao_PV ρ y) 0 0) 0 0 68 [some (.ref (Γ.2.2.2 + r0)), some (.int x1), some (.int x2), some (.int x3), some (.int x4), none] [] (M, ρ)) := by
  intro n
  induction n with
  | zero => exact ⟨fun _ _ _ _ _ h => ao_no h, fun _ _ _ _ _ h => ao_no h, fun _ _ _ _ _ _ _ h => ao_no h, fun _ _ _ _ _ _ _ h => ao_no h, fun _ _ _ _ _ _ _ h => ao_no h⟩
  | succ n ih =>
    refine ⟨?_, ?_, ?_, ?_, ?_⟩
    · intro r0 x1 x2 M y h
      replace h := ao_ifT h rfl
      refine ao_iload_n 2 dX12_giveReads_0 rfl rfl ?_
      refine ao_if_ne 5 dX12_giveReads_1 (by decide) (fun c1 => ?_) (fun c1 => ?_)
      · replace h := ao_ifF h c1
        exact ih.2.1 r0 x1 x2 M _ h
      · replace h := ao_ifT h c1
        cases h
        exact ao_return dX12_giveReads_4 rfl ⟨rfl, rfl⟩
    · intro r0 x1 x2 M y h
      replace h := ao_ifF h (by decide)
      replace h := ao_ifT h rfl
      refine ao_iconst (v := (-1)) dX12_giveReads_5 (by decide) ?_
      refine ao_istore_n 3 (lo' := [some (.ref (Γ.2.2.2 + r0)), some (.int x1), some (.int x2), some (.int (-1 : Int32)), none, none]) dX12_giveReads_6 rfl (Nat.le_of_ble_eq_true rfl) rfl ?_
      refine ao_iconst (v := 0) dX12_giveReads_7 (by decide) ?_
      refine ao_istore 4 (lo' := [some (.ref (Γ.2.2.2 + r0)), some (.int x1), some (.int x2), some (.int (-1 : Int32)), some (.int (0 : Int32)), none]) dX12_giveReads_8 (Nat.le_of_ble_eq_true rfl) rfl ?_
      exact ih.2.2.1 r0 x1 x2 (-1 : Int32) (0 : Int32) M _ h
    · intro r0 x1 x2 x3 x4 M y h
      replace h := ao_ifF h (by decide)
      replace h := ao_ifF h (by decide)
      replace h := ao_ifT h rfl
      refine ao_iload 4 dX12_giveReads_10 rfl ?_
      refine ao_bipush (v := 26) dX12_giveReads_12 (by decide) ?_
      refine ao_icmp_ge 74 dX12_giveReads_14 (by decide) (fun c2 => ?_) (fun c2 => ?_)
      · replace h := ao_ifT h c2
        refine ao_iload_n 3 dX12_giveReads_74 rfl rfl ?_
        refine ao_if_ge 79 dX12_giveReads_75 (by decide) (fun c3 => ?_) (fun c3 => ?_)
        · replace h := ao_ifT h c3
          refine ao_aload_n 0 dX12_giveReads_79 rfl rfl ?_
          refine ao_iload_n 1 dX12_giveReads_80 rfl rfl ?_
          refine ao_iload_n 2 dX12_giveReads_81 rfl rfl ?_
          refine ao_iload_n 3 dX12_giveReads_82 rfl rfl ?_
          obtain ⟨hk4, h⟩ := ao_some h
          obtain ⟨p5, hp5, h⟩ := ao_bind h
          refine an_callVi r0 12 (q := (RX12, TX12, 83)) [.int x1, .int x2, .int x3] (aX12_cell (d - 1) (by omega) r0 x1 x2 x3 M ρ hp5) dX12_giveReads_83 lc_X12_357 li_X12_cell ls_X12_cell rfl hk4 rfl rfl (Nat.le_of_ble_eq_true rfl) (ao_hR (by omega) (by decide)) ?_
          refine an_topi (fun v6 hv6 => ?_)
          replace h := ao_letD h hv6
          refine ao_istore 4 (lo' := [some (.ref (Γ.2.2.2 + r0)), some (.int x1), some (.int x2), some (.int x3), some (.int v6), none]) dX12_giveReads_86 (Nat.le_of_ble_eq_true rfl) rfl ?_
          refine ao_aload_n 0 dX12_giveReads_88 rfl rfl ?_
          refine ao_iload_n 1 dX12_giveReads_89 rfl rfl ?_
          refine ao_iload_n 2 dX12_giveReads_90 rfl rfl ?_
          refine ao_iconst (v := 1) dX12_giveReads_91 (by decide) ?_
          refine ao_isub dX12_giveReads_92 ?_
          refine ao_iload_n 3 dX12_giveReads_93 rfl rfl ?_
          obtain ⟨p7, hp7, h⟩ := ao_bind h
          refine an_callVi r0 12 (q := (RX12, TX12, 83)) [.int x1, .int (x2 - (1 : Int32)), .int x3] (aX12_cell (d - 1) (by omega) r0 x1 (x2 - (1 : Int32)) x3 p5.2 ρ hp7) dX12_giveReads_94 lc_X12_357 li_X12_cell ls_X12_cell rfl hk4 rfl rfl (Nat.le_of_ble_eq_true rfl) (ao_hR (by omega) (by decide)) ?_
          refine an_topi (fun v8 hv8 => ?_)
          replace h := ao_letD h hv8
          refine ao_istore 5 (lo' := [some (.ref (Γ.2.2.2 + r0)), some (.int x1), some (.int x2), some (.int x3), some (.int v6), some (.int v8)]) dX12_giveReads_97 (Nat.le_of_ble_eq_true rfl) rfl ?_
          refine ao_aload_n 0 dX12_giveReads_99 rfl rfl ?_
          obtain ⟨j9, hj9, h⟩ := ao_bind h
          refine an_getR r0 12 55 (q := (RX12, TX12, 83)) dX12_giveReads_100 rfl hk4 (Nat.le_of_ble_eq_true rfl) rfl lf_X12_266 hj9 ?_
          refine ao_iload 4 dX12_giveReads_103 rfl ?_
          refine ao_iconst (v := 0) dX12_giveReads_105 (by decide) ?_
          obtain ⟨hk10, h⟩ := ao_some h
          obtain ⟨hb11, h⟩ := ao_some h
          refine an_zastore j9 dX12_giveReads_106 hk10 hb11 rfl (fun M12 hM12 => ?_)
          replace h := ao_letD h hM12
          refine ao_aload_n 0 dX12_giveReads_107 rfl rfl ?_
          refine an_getR r0 12 55 (q := (RX12, TX12, 83)) dX12_giveReads_108 rfl hk4 (Nat.le_of_ble_eq_true rfl) rfl lf_X12_266 hj9 ?_
          refine ao_iload 5 dX12_giveReads_111 rfl ?_
          obtain ⟨hb13, h⟩ := ao_some h
          refine an_zaload j9 dX12_giveReads_113 hk10 hb13 ?_
          refine ao_if_eq 120 dX12_giveReads_114 (by decide) (fun c14 => ?_) (fun c14 => ?_)
          · replace h := ao_ifT h c14
            refine ao_aload_n 0 dX12_giveReads_120 rfl rfl ?_
            refine an_getR r0 12 55 (q := (RX12, TX12, 83)) dX12_giveReads_121 rfl hk4 (Nat.le_of_ble_eq_true rfl) rfl lf_X12_266 hj9 ?_
            refine ao_iload 5 dX12_giveReads_124 rfl ?_
            refine ao_iconst (v := 1) dX12_giveReads_126 (by decide) ?_
            refine an_zastore j9 dX12_giveReads_127 hk10 hb13 rfl (fun M15 hM15 => ?_)
            replace h := ao_letD h hM15
            refine ao_aload_n 0 dX12_giveReads_128 rfl rfl ?_
            obtain ⟨j16, hj16, h⟩ := ao_bind h
            refine an_getR r0 12 57 (q := (RX12, TX12, 83)) dX12_giveReads_129 rfl hk4 (Nat.le_of_ble_eq_true rfl) rfl lf_X12_272 hj16 ?_
            refine ao_iload 5 dX12_giveReads_132 rfl ?_
            refine ao_aload_n 0 dX12_giveReads_134 rfl rfl ?_
            refine an_getR r0 12 57 (q := (RX12, TX12, 83)) dX12_giveReads_135 rfl hk4 (Nat.le_of_ble_eq_true rfl) rfl lf_X12_272 hj16 ?_
            refine ao_iload 4 dX12_giveReads_138 rfl ?_
            obtain ⟨hk17, h⟩ := ao_some h
            obtain ⟨hb18, h⟩ := ao_some h
            refine an_iaload j16 dX12_giveReads_140 hk17 hb18 ?_
            obtain ⟨hb19, h⟩ := ao_some h
            refine an_iastore j16 dX12_giveReads_141 hk17 hb19 (fun M20 hM20 => ?_)
            replace h := ao_letD h hM20
            refine ao_aload_n 0 dX12_giveReads_142 rfl rfl ?_
            obtain ⟨j21, hj21, h⟩ := ao_bind h
            refine an_getR r0 12 58 (q := (RX12, TX12, 83)) dX12_giveReads_143 rfl hk4 (Nat.le_of_ble_eq_true rfl) rfl lf_X12_275 hj21 ?_
            refine ao_iload 5 dX12_giveReads_146 rfl ?_
            refine ao_aload_n 0 dX12_giveReads_148 rfl rfl ?_
            refine an_getR r0 12 58 (q := (RX12, TX12, 83)) dX12_giveReads_149 rfl hk4 (Nat.le_of_ble_eq_true rfl) rfl lf_X12_275 hj21 ?_
            refine ao_iload 4 dX12_giveReads_152 rfl ?_
            obtain ⟨hk22, h⟩ := ao_some h
            obtain ⟨hb23, h⟩ := ao_some h
            refine an_iaload j21 dX12_giveReads_154 hk22 hb23 ?_
            obtain ⟨hb24, h⟩ := ao_some h
            refine an_iastore j21 dX12_giveReads_155 hk22 hb24 (fun M25 hM25 => ?_)
            replace h := ao_letD h hM25
            refine ao_aload_n 0 dX12_giveReads_156 rfl rfl ?_
            obtain ⟨j26, hj26, h⟩ := ao_bind h
            refine an_getR r0 12 59 (q := (RX12, TX12, 83)) dX12_giveReads_157 rfl hk4 (Nat.le_of_ble_eq_true rfl) rfl lf_X12_278 hj26 ?_
            refine ao_iload 5 dX12_giveReads_160 rfl ?_
            refine ao_aload_n 0 dX12_giveReads_162 rfl rfl ?_
            refine an_getI r0 12 64 (q := (RX12, TX12, 83)) dX12_giveReads_163 rfl hk4 (Nat.le_of_ble_eq_true rfl) rfl lf_X12_366 ?_
            obtain ⟨hk27, h⟩ := ao_some h
            obtain ⟨hb28, h⟩ := ao_some h
            refine an_iastore j26 dX12_giveReads_166 hk27 hb28 (fun M29 hM29 => ?_)
            replace h := ao_letD h hM29
            refine ao_aload_n 0 dX12_giveReads_167 rfl rfl ?_
            refine ao_dup dX12_giveReads_168 rfl ?_
            refine an_getI r0 12 64 (q := (RX12, TX12, 83)) dX12_giveReads_169 rfl hk4 (Nat.le_of_ble_eq_true rfl) rfl lf_X12_366 ?_
            refine ao_iconst (v := 1) dX12_giveReads_172 (by decide) ?_
            refine ao_iadd dX12_giveReads_173 ?_
            refine an_putI r0 12 64 (q := (RX12, TX12, 83)) dX12_giveReads_174 rfl hk4 (Nat.le_of_ble_eq_true rfl) lf_X12_366 rfl rfl rfl rfl (fun M30 hM30 => ?_)
            replace h := ao_letD h hM30
            refine ao_goto 5 dX12_giveReads_177 (by decide) ?_
            refine ao_loForget (lo' := [some (.ref (Γ.2.2.2 + r0)), some (.int x1), some (.int x2), none, none, none]) (ao_fgS (ao_fgS (ao_fgS (ao_fgN (ao_fgN (ao_fgN ao_fgZ)))))) ?_
            exact ih.2.1 r0 x1 x2 M30 _ h
          · replace h := ao_ifF h c14
            refine ao_goto 5 dX12_giveReads_117 (by decide) ?_
            refine ao_loForget (lo' := [some (.ref (Γ.2.2.2 + r0)), some (.int x1), some (.int x2), none, none, none]) (ao_fgS (ao_fgS (ao_fgS (ao_fgN (ao_fgN (ao_fgN ao_fgZ)))))) ?_
            exact ih.2.1 r0 x1 x2 M12 _ h
        · replace h := ao_ifF h c3
          cases h
          exact ao_return dX12_giveReads_78 rfl ⟨rfl, rfl⟩
      · replace h := ao_ifF h c2
        refine ao_aload_n 0 dX12_giveReads_17 rfl rfl ?_
        obtain ⟨hk31, h⟩ := ao_some h
        obtain ⟨j32, hj32, h⟩ := ao_bind h
        refine an_getR r0 12 55 (q := (RX12, TX12, 83)) dX12_giveReads_18 rfl hk31 (Nat.le_of_ble_eq_true rfl) rfl lf_X12_266 hj32 ?_
        refine ao_aload_n 0 dX12_giveReads_21 rfl rfl ?_
        refine ao_iload_n 1 dX12_giveReads_22 rfl rfl ?_
        refine ao_iload_n 2 dX12_giveReads_23 rfl rfl ?_
        refine ao_iload 4 dX12_giveReads_24 rfl ?_
        obtain ⟨p33, hp33, h⟩ := ao_bind h
        refine an_callVi r0 12 (q := (RX12, TX12, 83)) [.int x1, .int x2, .int x4] (aX12_cell (d - 1) (by omega) r0 x1 x2 x4 M ρ hp33) dX12_giveReads_26 lc_X12_357 li_X12_cell ls_X12_cell rfl hk31 rfl rfl (Nat.le_of_ble_eq_true rfl) (ao_hR (by omega) (by decide)) ?_
        obtain ⟨hk34, h⟩ := ao_some h
        obtain ⟨hb35, h⟩ := ao_some h
        refine an_zaload j32 dX12_giveReads_29 hk34 hb35 ?_
        refine ao_if_eq 68 dX12_giveReads_30 (by decide) (fun c36 => ?_) (fun c36 => ?_)
        · replace h := ao_ifT h c36
          exact ih.2.2.2.2 r0 x1 x2 x3 x4 p33.2 _ h
        · replace h := ao_ifF h c36
          refine ao_iload_n 3 dX12_giveReads_33 rfl rfl ?_
          refine ao_if_lt 65 dX12_giveReads_34 (by decide) (fun c37 => ?_) (fun c37 => ?_)
          · replace h := ao_ifT h c37
            exact ih.2.2.2.1 r0 x1 x2 x3 x4 p33.2 _ h
          · replace h := ao_ifF h c37
            refine ao_aload_n 0 dX12_giveReads_37 rfl rfl ?_
            obtain ⟨j38, hj38, h⟩ := ao_bind h
            refine an_getR r0 12 59 (q := (RX12, TX12, 83)) dX12_giveReads_38 rfl hk31 (Nat.le_of_ble_eq_true rfl) rfl lf_X12_278 hj38 ?_
            refine ao_aload_n 0 dX12_giveReads_41 rfl rfl ?_
            refine ao_iload_n 1 dX12_giveReads_42 rfl rfl ?_
            refine ao_iload_n 2 dX12_giveReads_43 rfl rfl ?_
            refine ao_iload 4 dX12_giveReads_44 rfl ?_
            obtain ⟨p39, hp39, h⟩ := ao_bind h
            refine an_callVi r0 12 (q := (RX12, TX12, 83)) [.int x1, .int x2, .int x4] (aX12_cell (d - 1) (by omega) r0 x1 x2 x4 p33.2 ρ hp39) dX12_giveReads_46 lc_X12_357 li_X12_cell ls_X12_cell rfl hk31 rfl rfl (Nat.le_of_ble_eq_true rfl) (ao_hR (by omega) (by decide)) ?_
            obtain ⟨hk40, h⟩ := ao_some h
            obtain ⟨hb41, h⟩ := ao_some h
            refine an_iaload j38 dX12_giveReads_49 hk40 hb41 ?_
            refine ao_aload_n 0 dX12_giveReads_50 rfl rfl ?_
            refine an_getR r0 12 59 (q := (RX12, TX12, 83)) dX12_giveReads_51 rfl hk31 (Nat.le_of_ble_eq_true rfl) rfl lf_X12_278 hj38 ?_
            refine ao_aload_n 0 dX12_giveReads_54 rfl rfl ?_
            refine ao_iload_n 1 dX12_giveReads_55 rfl rfl ?_
            refine ao_iload_n 2 dX12_giveReads_56 rfl rfl ?_
            refine ao_iload_n 3 dX12_giveReads_57 rfl rfl ?_
            obtain ⟨p42, hp42, h⟩ := ao_bind h
            refine an_callVi r0 12 (q := (RX12, TX12, 83)) [.int x1, .int x2, .int x3] (aX12_cell (d - 1) (by omega) r0 x1 x2 x3 p39.2 ρ hp42) dX12_giveReads_58 lc_X12_357 li_X12_cell ls_X12_cell rfl hk31 rfl rfl (Nat.le_of_ble_eq_true rfl) (ao_hR (by omega) (by decide)) ?_
            obtain ⟨hb43, h⟩ := ao_some h
            refine an_iaload j38 dX12_giveReads_61 hk40 hb43 ?_
            refine ao_icmp_ge 68 dX12_giveReads_62 (by decide) (fun c44 => ?_) (fun c44 => ?_)
            · replace h := ao_ifT h c44
              exact ih.2.2.2.2 r0 x1 x2 x3 x4 p42.2 _ h
            · replace h := ao_ifF h c44
              exact ih.2.2.2.1 r0 x1 x2 x3 x4 p42.2 _ h
    · intro r0 x1 x2 x3 x4 M y h
      replace h := ao_ifF h (by decide)
      replace h := ao_ifF h (by decide)
      replace h := ao_ifF h (by decide)
      replace h := ao_ifT h rfl
      refine ao_iload 4 dX12_giveReads_65 rfl ?_
      refine ao_istore_n 3 (lo' := [some (.ref (Γ.2.2.2 + r0)), some (.int x1), some (.int x2), some (.int x4), some (.int x4), none]) dX12_giveReads_67 rfl (Nat.le_of_ble_eq_true rfl) rfl ?_
      exact ih.2.2.2.2 r0 x1 x2 x4 x4 M _ h
    · intro r0 x1 x2 x3 x4 M y h
      replace h := ao_ifF h (by decide)
      replace h := ao_ifF h (by decide)
      replace h := ao_ifF h (by decide)
      replace h := ao_ifF h (by decide)
      replace h := ao_ifT h rfl
      obtain ⟨v45, hv45⟩ : ∃ z : Int32, z = x4 + (1 : Int32) := ⟨_, rfl⟩
      replace h := ao_letD h hv45
      refine ao_iinc 4 (v := v45) (lo' := [some (.ref (Γ.2.2.2 + r0)), some (.int x1), some (.int x2), some (.int x3), some (.int v45), none]) dX12_giveReads_68 rfl (by rw [hv45]; rfl) (Nat.le_of_ble_eq_true rfl) rfl ?_
      refine ao_goto 10 dX12_giveReads_71 (by decide) ?_
      exact ih.2.2.1 r0 x1 x2 x3 v45 M _ h
set_option maxRecDepth 100000 in
set_option maxHeartbeats 4000000 in
theorem aX12_giveReads {Γ : ao_C} (d : Nat) (hd : 1 ≤ d) (n : Nat) (r0 : Nat) (x1 : Int32) (x2 : Int32) (M : ao_M) (ρ : ao_H) {y : ao_M} (h : gX12_giveReads n r0 x1 x2 M ρ = some y) : ao_A Γ uX12_giveReads d 0 0 [.ref (Γ.2.2.2 + r0), .int x1, .int x2] (M, ρ) (ao_PV ρ y) := by
  refine ao_of (by decide) (ao_cat1 (Nat.le_of_ble_eq_true rfl)) (Nat.le_of_ble_eq_true rfl) ?_
  show ao_W Γ uX12_giveReads (ao_rm d 0 0) (ao_Q Γ (ao_PV ρ y) 0 0) 0 0 0 [some (.ref (Γ.2.2.2 + r0)), some (.int x1), some (.int x2), none, none, none] [] (M, ρ)
  exact (wX12_giveReads d hd n).1 r0 x1 x2 M y h

abbrev uX12_dropReads : ao_Mi := (yX12_dropReads, cX12_dropReads, 4, none, [])
def fX12_dropReads : Nat → Nat → Nat → Int32 → Int32 → Int32 →  ao_M → ao_H → Option (ao_M)
  | 0, _, _, _, _, _, _, _ => none
  | n + 1, pc, r0, x1, x2, x3, M, ρ =>
    if pc = 0 then
      fX12_dropReads n 2 r0 x1 x2 (0 : Int32) M ρ
    else if pc = 2 then
      if (26 : Int32) ≤ x3 then
        some M
      else
        if ρ.2.1 r0 = 22 then
        (ρ.1 r0 55).bind fun j3 =>
        (gX12_cell r0 x1 x2 x3 M ρ).bind fun p4 =>
        if ρ.2.1 j3 = 2 then
        if ¬ (p4.1 < 0 ∨ ρ.2.2.1 j3 ≤ p4.1.toNatClampNeg) then
        ao_let (ao_u p4.2 j3 p4.1.toNatClampNeg (0 : Int32)) fun M7 =>
        ao_let (x3 + (1 : Int32)) fun v8 =>
        fX12_dropReads n 2 r0 x1 x2 v8 M7 ρ
        else none
        else none
        else none
    else none
def gX12_dropReads (n : Nat) (r0 : Nat) (x1 : Int32) (x2 : Int32) (M : ao_M) (ρ : ao_H) : Option (ao_M) := fX12_dropReads n 0 r0 x1 x2 0 M ρ
set_option maxRecDepth 100000 in
set_option maxHeartbeats 4000000 in
theorem wX12_dropReads {Γ : ao_C} {ρ : ao_H} (d : Nat) (hd : 1 ≤ d) : ∀ n : Nat, (∀ (r0 : Nat) (x1 : Int32) (x2 : Int32) (M : ao_M) (y : ao_M), fX12_dropReads n 0 r0 x1 x2 0 M ρ = some y → ao_W Γ uX12_dropReads (ao_rm d 0 0) (ao_Q Γ (ao_PV ρ y) 0 0) 0 0 0 [some (.ref (Γ.2.2.2 + r0)), some (.int x1), some (.int x2), none] [] (M, ρ)) ∧ (∀ (r0 : Nat) (x1 : Int32) (x2 : Int32) (x3 : Int32) (M : ao_M) (y : ao_M), fX12_dropReads n 2 r0 x1 x2 x3 M ρ = some y → ao_W Γ uX12_dropReads (ao_rm d 0 0) (ao_Q Γ (ao_PV ρ y) 0 0) 0 0 2 [some (.ref (Γ.2.2.2 + r0)), some (.int x1), some (.int x2), some (.int x3)] [] (M, ρ)) := by
  intro n
  induction n with
  | zero => exact ⟨fun _ _ _ _ _ h => ao_no h, fun _ _ _ _ _ _ h => ao_no h⟩
  | succ n ih =>
    refine ⟨?_, ?_⟩
    · intro r0 x1 x2 M y h
      replace h := ao_ifT h rfl
      refine ao_iconst (v := 0) dX12_dropReads_0 (by decide) ?_
      refine ao_istore_n 3 (lo' := [some (.ref (Γ.2.2.2 + r0)), some (.int x1), some (.int x2), some (.int (0 : Int32))]) dX12_dropReads_1 rfl (Nat.le_of_ble_eq_true rfl) rfl ?_
      exact ih.2 r0 x1 x2 (0 : Int32) M _ h
    · intro r0 x1 x2 x3 M y h
      replace h := ao_ifF h (by decide)
      replace h := ao_ifT h rfl
      refine ao_iload_n 3 dX12_dropReads_2 rfl rfl ?_
      refine ao_bipush (v := 26) dX12_dropReads_3 (by decide) ?_
      refine ao_icmp_ge 27 dX12_dropReads_5 (by decide) (fun c1 => ?_) (fun c1 => ?_)
      · replace h := ao_ifT h c1
        cases h
        exact ao_return dX12_dropReads_27 rfl ⟨rfl, rfl⟩
      · replace h := ao_ifF h c1
        refine ao_aload_n 0 dX12_dropReads_8 rfl rfl ?_
        obtain ⟨hk2, h⟩ := ao_some h
        obtain ⟨j3, hj3, h⟩ := ao_bind h
        refine an_getR r0 12 55 (q := (RX12, TX12, 83)) dX12_dropReads_9 rfl hk2 (Nat.le_of_ble_eq_true rfl) rfl lf_X12_266 hj3 ?_
        refine ao_aload_n 0 dX12_dropReads_12 rfl rfl ?_
        refine ao_iload_n 1 dX12_dropReads_13 rfl rfl ?_
        refine ao_iload_n 2 dX12_dropReads_14 rfl rfl ?_
        refine ao_iload_n 3 dX12_dropReads_15 rfl rfl ?_
        obtain ⟨p4, hp4, h⟩ := ao_bind h
        refine an_callVi r0 12 (q := (RX12, TX12, 83)) [.int x1, .int x2, .int x3] (aX12_cell (d - 1) (by omega) r0 x1 x2 x3 M ρ hp4) dX12_dropReads_16 lc_X12_357 li_X12_cell ls_X12_cell rfl hk2 rfl rfl (Nat.le_of_ble_eq_true rfl) (ao_hR (by omega) (by decide)) ?_
        refine ao_iconst (v := 0) dX12_dropReads_19 (by decide) ?_
        obtain ⟨hk5, h⟩ := ao_some h
        obtain ⟨hb6, h⟩ := ao_some h
        refine an_zastore j3 dX12_dropReads_20 hk5 hb6 rfl (fun M7 hM7 => ?_)
        replace h := ao_letD h hM7
        obtain ⟨v8, hv8⟩ : ∃ z : Int32, z = x3 + (1 : Int32) := ⟨_, rfl⟩
        replace h := ao_letD h hv8
        refine ao_iinc 3 (v := v8) (lo' := [some (.ref (Γ.2.2.2 + r0)), some (.int x1), some (.int x2), some (.int v8)]) dX12_dropReads_21 rfl (by rw [hv8]; rfl) (Nat.le_of_ble_eq_true rfl) rfl ?_
        refine ao_goto 2 dX12_dropReads_24 (by decide) ?_
        exact ih.2 r0 x1 x2 v8 M7 _ h
set_option maxRecDepth 100000 in
set_option maxHeartbeats 4000000 in
theorem aX12_dropReads {Γ : ao_C} (d : Nat) (hd : 1 ≤ d) (n : Nat) (r0 : Nat) (x1 : Int32) (x2 : Int32) (M : ao_M) (ρ : ao_H) {y : ao_M} (h : gX12_dropReads n r0 x1 x2 M ρ = some y) : ao_A Γ uX12_dropReads d 0 0 [.ref (Γ.2.2.2 + r0), .int x1, .int x2] (M, ρ) (ao_PV ρ y) := by
  refine ao_of (by decide) (ao_cat1 (Nat.le_of_ble_eq_true rfl)) (Nat.le_of_ble_eq_true rfl) ?_
  show ao_W Γ uX12_dropReads (ao_rm d 0 0) (ao_Q Γ (ao_PV ρ y) 0 0) 0 0 0 [some (.ref (Γ.2.2.2 + r0)), some (.int x1), some (.int x2), none] [] (M, ρ)
  exact (wX12_dropReads d hd n).1 r0 x1 x2 M y h

abbrev uX12_takeBack : ao_Mi := (yX12_takeBack, cX12_takeBack, 5, none, [])
def fX12_takeBack : Nat → Nat → Nat → Int32 → Int32 → Int32 → Int32 →  ao_M → ao_H → Option (ao_M)
  | 0, _, _, _, _, _, _, _, _ => none
  | n + 1, pc, r0, x1, x2, x3, x4, M, ρ =>
    if pc = 0 then
      fX12_takeBack n 2 r0 x1 x2 (0 : Int32) 0 M ρ
    else if pc = 2 then
      if (26 : Int32) ≤ x3 then
        if ρ.2.1 r0 = 22 then
        (ρ.1 r0 62).bind fun j3 =>
        (gX12_level r0 x1 x2 M ρ).bind fun p4 =>
        if ρ.2.1 j3 = 0 then
        if ¬ (p4.1 < 0 ∨ ρ.2.2.1 j3 ≤ p4.1.toNatClampNeg) then
        ao_let (ao_u p4.2 j3 p4.1.toNatClampNeg (0 : Int32)) fun M7 =>
        some M7
        else none
        else none
        else none
      else
        if ρ.2.1 r0 = 22 then
        (gX12_cell r0 x1 x2 x3 M ρ).bind fun p9 =>
        ao_let p9.1 fun v10 =>
        (ρ.1 r0 56).bind fun j11 =>
        if ρ.2.1 j11 = 2 then
        if ¬ (v10 < 0 ∨ ρ.2.2.1 j11 ≤ v10.toNatClampNeg) then
        if (p9.2 j11 v10.toNatClampNeg) = 0 then
          fX12_takeBack n 47 r0 x1 x2 x3 v10 p9.2 ρ
        else
          (gX12_isEager n r0 p9.2 ρ).bind fun p15 =>
          if p15.1 = 0 then
            fX12_takeBack n 47 r0 x1 x2 x3 v10 p15.2 ρ
          else
            (ρ.1 r0 17).bind fun j17 =>
            (ρ.1 r0 60).bind fun j18 =>
            if ρ.2.1 j18 = 0 then
            if ¬ (v10 < 0 ∨ ρ.2.2.1 j18 ≤ v10.toNatClampNeg) then
            if ρ.2.1 j17 = 0 then
            if ¬ (x3 < 0 ∨ ρ.2.2.1 j17 ≤ x3.toNatClampNeg) then
            ao_let (ao_u p15.2 j17 x3.toNatClampNeg (p15.2 j18 v10.toNatClampNeg)) fun M23 =>
            fX12_takeBack n 47 r0 x1 x2 x3 v10 M23 ρ
            else none
            else none
            else none
            else none
        else none
        else none
        else none
    else if pc = 47 then
      if ρ.2.1 r0 = 22 then
      (ρ.1 r0 56).bind fun j25 =>
      if ρ.2.1 j25 = 2 then
      if ¬ (x4 < 0 ∨ ρ.2.2.1 j25 ≤ x4.toNatClampNeg) then
      ao_let (ao_u M j25 x4.toNatClampNeg (0 : Int32)) fun M28 =>
      (ρ.1 r0 31).bind fun j29 =>
      (ρ.1 r0 53).bind fun j30 =>
      if ρ.2.1 j30 = 0 then
      if ¬ (x4 < 0 ∨ ρ.2.2.1 j30 ≤ x4.toNatClampNeg) then
      if ρ.2.1 j29 = 0 then
      if ¬ (((x1 * (26 : Int32)) + x3) < 0 ∨ ρ.2.2.1 j29 ≤ ((x1 * (26 : Int32)) + x3).toNatClampNeg) then
      ao_let (ao_u M28 j29 ((x1 * (26 : Int32)) + x3).toNatClampNeg (M28 j30 x4.toNatClampNeg)) fun M35 =>
      ao_let (x3 + (1 : Int32)) fun v36 =>
      fX12_takeBack n 2 r0 x1 x2 v36 0 M35 ρ
      else none
      else none
      else none
      else none
      else none
      else none
      else none
    else none
def gX12_takeBack (n : Nat) (r0 : Nat) (x1 : Int32) (x2 : Int32) (M : ao_M) (ρ : ao_H) : Option (ao_M) := fX12_takeBack n 0 r0 x1 x2 0 0 M ρ
set_option maxRecDepth 100000 in
set_option maxHeartbeats 4000000 in
theorem wX12_takeBack {Γ : ao_C} {ρ : ao_H} (d : Nat) (hd : 1 ≤ d) : ∀ n : Nat, (∀ (r0 : Nat) (x1 : Int32) (x2 : Int32) (M : ao_M) (y : ao_M), fX12_takeBack n 0 r0 x1 x2 0 0 M ρ = some y → ao_W Γ uX12_takeBack (ao_rm d 0 0) (ao_Q Γ (ao_PV ρ y) 0 0) 0 0 0 [some (.ref (Γ.2.2.2 + r0)), some (.int x1), some (.int x2), none, none] [] (M, ρ)) ∧ (∀ (r0 : Nat) (x1 : Int32) (x2 : Int32) (x3 : Int32) (M : ao_M) (y : ao_M), fX12_takeBack n 2 r0 x1 x2 x3 0 M ρ = some y → ao_W Γ uX12_takeBack (ao_rm d 0 0) (ao_Q Γ (ao_PV ρ y) 0 0) 0 0 2 [some (.ref (Γ.2.2.2 + r0)), some (.int x1), some (.int x2), some (.int x3), none] [] (M, ρ)) ∧ (∀ (r0 : Nat) (x1 : Int32) (x2 : Int32) (x3 : Int32) (x4 : Int32) (M : ao_M) (y : ao_M), fX12_takeBack n 47 r0 x1 x2 x3 x4 M ρ = some y → ao_W Γ uX12_takeBack (ao_rm d 0 0) (ao_Q Γ (ao_PV ρ y) 0 0) 0 0 47 [some (.ref (Γ.2.2.2 + r0)), some (.int x1), some (.int x2), some (.int x3), some (.int x4)] [] (M, ρ)) := by
  intro n
  induction n with
  | zero => exact ⟨fun _ _ _ _ _ h => ao_no h, fun _ _ _ _ _ _ h => ao_no h, fun _ _ _ _ _ _ _ h => ao_no h⟩
  | succ n ih =>
    refine ⟨?_, ?_, ?_⟩
    · intro r0 x1 x2 M y h
      replace h := ao_ifT h rfl
      refine ao_iconst (v := 0) dX12_takeBack_0 (by decide) ?_
      refine ao_istore_n 3 (lo' := [some (.ref (Γ.2.2.2 + r0)), some (.int x1), some (.int x2), some (.int (0 : Int32)), none]) dX12_takeBack_1 rfl (Nat.le_of_ble_eq_true rfl) rfl ?_
      exact ih.2.1 r0 x1 x2 (0 : Int32) M _ h
    · intro r0 x1 x2 x3 M y h
      replace h := ao_ifF h (by decide)
      replace h := ao_ifT h rfl
      refine ao_iload_n 3 dX12_takeBack_2 rfl rfl ?_
      refine ao_bipush (v := 26) dX12_takeBack_3 (by decide) ?_
      refine ao_icmp_ge 79 dX12_takeBack_5 (by decide) (fun c1 => ?_) (fun c1 => ?_)
      · replace h := ao_ifT h c1
        refine ao_aload_n 0 dX12_takeBack_79 rfl rfl ?_
        obtain ⟨hk2, h⟩ := ao_some h
        obtain ⟨j3, hj3, h⟩ := ao_bind h
        refine an_getR r0 12 62 (q := (RX12, TX12, 83)) dX12_takeBack_80 rfl hk2 (Nat.le_of_ble_eq_true rfl) rfl lf_X12_287 hj3 ?_
        refine ao_aload_n 0 dX12_takeBack_83 rfl rfl ?_
        refine ao_iload_n 1 dX12_takeBack_84 rfl rfl ?_
        refine ao_iload_n 2 dX12_takeBack_85 rfl rfl ?_
        obtain ⟨p4, hp4, h⟩ := ao_bind h
        refine an_callVi r0 12 (q := (RX12, TX12, 83)) [.int x1, .int x2] (aX12_level (d - 1) (by omega) r0 x1 x2 M ρ hp4) dX12_takeBack_86 lc_X12_360 li_X12_level ls_X12_level rfl hk2 rfl rfl (Nat.le_of_ble_eq_true rfl) (ao_hR (by omega) (by decide)) ?_
        refine ao_iconst (v := 0) dX12_takeBack_89 (by decide) ?_
        obtain ⟨hk5, h⟩ := ao_some h
        obtain ⟨hb6, h⟩ := ao_some h
        refine an_iastore j3 dX12_takeBack_90 hk5 hb6 (fun M7 hM7 => ?_)
        replace h := ao_letD h hM7
        cases h
        exact ao_return dX12_takeBack_91 rfl ⟨rfl, rfl⟩
      · replace h := ao_ifF h c1
        refine ao_aload_n 0 dX12_takeBack_8 rfl rfl ?_
        refine ao_iload_n 1 dX12_takeBack_9 rfl rfl ?_
        refine ao_iload_n 2 dX12_takeBack_10 rfl rfl ?_
        refine ao_iload_n 3 dX12_takeBack_11 rfl rfl ?_
        obtain ⟨hk8, h⟩ := ao_some h
        obtain ⟨p9, hp9, h⟩ := ao_bind h
        refine an_callVi r0 12 (q := (RX12, TX12, 83)) [.int x1, .int x2, .int x3] (aX12_cell (d - 1) (by omega) r0 x1 x2 x3 M ρ hp9) dX12_takeBack_12 lc_X12_357 li_X12_cell ls_X12_cell rfl hk8 rfl rfl (Nat.le_of_ble_eq_true rfl) (ao_hR (by omega) (by decide)) ?_
        refine an_topi (fun v10 hv10 => ?_)
        replace h := ao_letD h hv10
        refine ao_istore 4 (lo' := [some (.ref (Γ.2.2.2 + r0)), some (.int x1), some (.int x2), some (.int x3), some (.int v10)]) dX12_takeBack_15 (Nat.le_of_ble_eq_true rfl) rfl ?_
        refine ao_aload_n 0 dX12_takeBack_17 rfl rfl ?_
        obtain ⟨j11, hj11, h⟩ := ao_bind h
        refine an_getR r0 12 56 (q := (RX12, TX12, 83)) dX12_takeBack_18 rfl hk8 (Nat.le_of_ble_eq_true rfl) rfl lf_X12_269 hj11 ?_
        refine ao_iload 4 dX12_takeBack_21 rfl ?_
        obtain ⟨hk12, h⟩ := ao_some h
        obtain ⟨hb13, h⟩ := ao_some h
        refine an_zaload j11 dX12_takeBack_23 hk12 hb13 ?_
        refine ao_if_eq 47 dX12_takeBack_24 (by decide) (fun c14 => ?_) (fun c14 => ?_)
        · replace h := ao_ifT h c14
          exact ih.2.2 r0 x1 x2 x3 v10 p9.2 _ h
        · replace h := ao_ifF h c14
          refine ao_aload_n 0 dX12_takeBack_27 rfl rfl ?_
          obtain ⟨p15, hp15, h⟩ := ao_bind h
          refine an_callVi r0 12 (q := (RX12, TX12, 83)) [] (aX12_isEager (d - 1) (by omega) _ r0 p9.2 ρ hp15) dX12_takeBack_28 lc_X12_369 li_X12_isEager ls_X12_isEager rfl hk8 rfl rfl (Nat.le_of_ble_eq_true rfl) (ao_hR (by omega) (by decide)) ?_
          refine ao_if_eq 47 dX12_takeBack_31 (by decide) (fun c16 => ?_) (fun c16 => ?_)
          · replace h := ao_ifT h c16
            exact ih.2.2 r0 x1 x2 x3 v10 p15.2 _ h
          · replace h := ao_ifF h c16
            refine ao_aload_n 0 dX12_takeBack_34 rfl rfl ?_
            obtain ⟨j17, hj17, h⟩ := ao_bind h
            refine an_getR r0 12 17 (q := (RX12, TX12, 83)) dX12_takeBack_35 rfl hk8 (Nat.le_of_ble_eq_true rfl) rfl lf_X12_151 hj17 ?_
            refine ao_iload_n 3 dX12_takeBack_38 rfl rfl ?_
            refine ao_aload_n 0 dX12_takeBack_39 rfl rfl ?_
            obtain ⟨j18, hj18, h⟩ := ao_bind h
            refine an_getR r0 12 60 (q := (RX12, TX12, 83)) dX12_takeBack_40 rfl hk8 (Nat.le_of_ble_eq_true rfl) rfl lf_X12_281 hj18 ?_
            refine ao_iload 4 dX12_takeBack_43 rfl ?_
            obtain ⟨hk19, h⟩ := ao_some h
            obtain ⟨hb20, h⟩ := ao_some h
            refine an_iaload j18 dX12_takeBack_45 hk19 hb20 ?_
            obtain ⟨hk21, h⟩ := ao_some h
            obtain ⟨hb22, h⟩ := ao_some h
            refine an_iastore j17 dX12_takeBack_46 hk21 hb22 (fun M23 hM23 => ?_)
            replace h := ao_letD h hM23
            exact ih.2.2 r0 x1 x2 x3 v10 M23 _ h
    · intro r0 x1 x2 x3 x4 M y h
      replace h := ao_ifF h (by decide)
      replace h := ao_ifF h (by decide)
      replace h := ao_ifT h rfl
      refine ao_aload_n 0 dX12_takeBack_47 rfl rfl ?_
      obtain ⟨hk24, h⟩ := ao_some h
      obtain ⟨j25, hj25, h⟩ := ao_bind h
      refine an_getR r0 12 56 (q := (RX12, TX12, 83)) dX12_takeBack_48 rfl hk24 (Nat.le_of_ble_eq_true rfl) rfl lf_X12_269 hj25 ?_
      refine ao_iload 4 dX12_takeBack_51 rfl ?_
      refine ao_iconst (v := 0) dX12_takeBack_53 (by decide) ?_
      obtain ⟨hk26, h⟩ := ao_some h
      obtain ⟨hb27, h⟩ := ao_some h
      refine an_zastore j25 dX12_takeBack_54 hk26 hb27 rfl (fun M28 hM28 => ?_)
      replace h := ao_letD h hM28
      refine ao_aload_n 0 dX12_takeBack_55 rfl rfl ?_
      obtain ⟨j29, hj29, h⟩ := ao_bind h
      refine an_getR r0 12 31 (q := (RX12, TX12, 83)) dX12_takeBack_56 rfl hk24 (Nat.le_of_ble_eq_true rfl) rfl lf_X12_193 hj29 ?_
      refine ao_iload_n 1 dX12_takeBack_59 rfl rfl ?_
      refine ao_bipush (v := 26) dX12_takeBack_60 (by decide) ?_
      refine ao_imul dX12_takeBack_62 ?_
      refine ao_iload_n 3 dX12_takeBack_63 rfl rfl ?_
      refine ao_iadd dX12_takeBack_64 ?_
      refine ao_aload_n 0 dX12_takeBack_65 rfl rfl ?_
      obtain ⟨j30, hj30, h⟩ := ao_bind h
      refine an_getR r0 12 53 (q := (RX12, TX12, 83)) dX12_takeBack_66 rfl hk24 (Nat.le_of_ble_eq_true rfl) rfl lf_X12_259 hj30 ?_
      refine ao_iload 4 dX12_takeBack_69 rfl ?_
      obtain ⟨hk31, h⟩ := ao_some h
      obtain ⟨hb32, h⟩ := ao_some h
      refine an_iaload j30 dX12_takeBack_71 hk31 hb32 ?_
      obtain ⟨hk33, h⟩ := ao_some h
      obtain ⟨hb34, h⟩ := ao_some h
      refine an_iastore j29 dX12_takeBack_72 hk33 hb34 (fun M35 hM35 => ?_)
      replace h := ao_letD h hM35
      obtain ⟨v36, hv36⟩ : ∃ z : Int32, z = x3 + (1 : Int32) := ⟨_, rfl⟩
      replace h := ao_letD h hv36
      refine ao_iinc 3 (v := v36) (lo' := [some (.ref (Γ.2.2.2 + r0)), some (.int x1), some (.int x2), some (.int v36), some (.int x4)]) dX12_takeBack_73 rfl (by rw [hv36]; rfl) (Nat.le_of_ble_eq_true rfl) rfl ?_
      refine ao_goto 2 dX12_takeBack_76 (by decide) ?_
      refine ao_loForget (lo' := [some (.ref (Γ.2.2.2 + r0)), some (.int x1), some (.int x2), some (.int v36), none]) (ao_fgS (ao_fgS (ao_fgS (ao_fgS (ao_fgN ao_fgZ))))) ?_
      exact ih.2.1 r0 x1 x2 v36 M35 _ h
set_option maxRecDepth 100000 in
set_option maxHeartbeats 4000000 in
theorem aX12_takeBack {Γ : ao_C} (d : Nat) (hd : 1 ≤ d) (n : Nat) (r0 : Nat) (x1 : Int32) (x2 : Int32) (M : ao_M) (ρ : ao_H) {y : ao_M} (h : gX12_takeBack n r0 x1 x2 M ρ = some y) : ao_A Γ uX12_takeBack d 0 0 [.ref (Γ.2.2.2 + r0), .int x1, .int x2] (M, ρ) (ao_PV ρ y) := by
  refine ao_of (by decide) (ao_cat1 (Nat.le_of_ble_eq_true rfl)) (Nat.le_of_ble_eq_true rfl) ?_
  show ao_W Γ uX12_takeBack (ao_rm d 0 0) (ao_Q Γ (ao_PV ρ y) 0 0) 0 0 0 [some (.ref (Γ.2.2.2 + r0)), some (.int x1), some (.int x2), none, none] [] (M, ρ)
  exact (wX12_takeBack d hd n).1 r0 x1 x2 M y h

abbrev uX12_takeBackTo : ao_Mi := (yX12_takeBackTo, cX12_takeBackTo, 5, none, [])
def fX12_takeBackTo : Nat → Nat → Nat → Int32 → Int32 → Int32 → Int32 →  ao_M → ao_H → Option (ao_M)
  | 0, _, _, _, _, _, _, _, _ => none
  | n + 1, pc, r0, x1, x2, x3, x4, M, ρ =>
    if pc = 0 then
      if ρ.2.1 r0 = 22 then
      (ρ.1 r0 34).bind fun j2 =>
      if ρ.2.1 j2 = 0 then
      if ¬ (x1 < 0 ∨ ρ.2.2.1 j2 ≤ x1.toNatClampNeg) then
      ao_let ((M j2 x1.toNatClampNeg) - (1 : Int32)) fun v5 =>
      fX12_takeBackTo n 10 r0 x1 x2 x3 v5 M ρ
      else none
      else none
      else none
    else if pc = 10 then
      if x4 < x2 then
        if ρ.2.1 r0 = 22 then
        (ρ.1 r0 33).bind fun j8 =>
        if ρ.2.1 j8 = 0 then
        if ¬ (x1 < 0 ∨ ρ.2.2.1 j8 ≤ x1.toNatClampNeg) then
        ao_let (ao_u M j8 x1.toNatClampNeg (0 : Int32)) fun M11 =>
        some M11
        else none
        else none
        else none
      else
        if ρ.2.1 r0 = 22 then
        (gX12_takeBack n r0 x1 x4 M ρ).bind fun p13 =>
        if x3 = 0 then
          (gX12_dropReads n r0 x1 x4 p13 ρ).bind fun p15 =>
          fX12_takeBackTo n 44 r0 x1 x2 x3 x4 p15 ρ
        else
          (gX12_giveReads n r0 x1 x4 p13 ρ).bind fun p16 =>
          fX12_takeBackTo n 44 r0 x1 x2 x3 x4 p16 ρ
        else none
    else if pc = 44 then
      ao_let (x4 + (-1 : Int32)) fun v17 =>
      fX12_takeBackTo n 10 r0 x1 x2 x3 v17 M ρ
    else none
def gX12_takeBackTo (n : Nat) (r0 : Nat) (x1 : Int32) (x2 : Int32) (x3 : Int32) (M : ao_M) (ρ : ao_H) : Option (ao_M) := fX12_takeBackTo n 0 r0 x1 x2 x3 0 M ρ
set_option maxRecDepth 100000 in
set_option maxHeartbeats 4000000 in
theorem wX12_takeBackTo {Γ : ao_C} {ρ : ao_H} (d : Nat) (hd : 2 ≤ d) : ∀ n : Nat, (∀ (r0 : Nat) (x1 : Int32) (x2 : Int32) (x3 : Int32) (M : ao_M) (y : ao_M), fX12_takeBackTo n 0 r0 x1 x2 x3 0 M ρ = some y → ao_W Γ uX12_takeBackTo (ao_rm d 0 0) (ao_Q Γ (ao_PV ρ y) 0 0) 0 0 0 [some (.ref (Γ.2.2.2 + r0)), some (.int x1), some (.int x2), some (.int x3), none] [] (M, ρ)) ∧ (∀ (r0 : Nat) (x1 : Int32) (x2 : Int32) (x3 : Int32) (x4 : Int32) (M : ao_M) (y : ao_M), fX12_takeBackTo n 10 r0 x1 x2 x3 x4 M ρ = some y → ao_W Γ uX12_takeBackTo (ao_rm d 0 0) (ao_Q Γ (ao_PV ρ y) 0 0) 0 0 10 [some (.ref (Γ.2.2.2 + r0)), some (.int x1), some (.int x2), some (.int x3), some (.int x4)] [] (M, ρ)) ∧ (∀ (r0 : Nat) (x1 : Int32) (x2 : Int32) (x3 : Int32) (x4 : Int32) (M : ao_M) (y : ao_M), fX12_takeBackTo n 44 r0 x1 x2 x3 x4 M ρ = some y → ao_W Γ uX12_takeBackTo (ao_rm d 0 0) (ao_Q Γ (ao_PV ρ y) 0 0) 0 0 44 [some (.ref (Γ.2.2.2 + r0)), some (.int x1), some (.int x2), some (.int x3), some (.int x4)] [] (M, ρ)) := by
  intro n
  induction n with
  | zero => exact ⟨fun _ _ _ _ _ _ h => ao_no h, fun _ _ _ _ _ _ _ h => ao_no h, fun _ _ _ _ _ _ _ h => ao_no h⟩
  | succ n ih =>
    refine ⟨?_, ?_, ?_⟩
    · intro r0 x1 x2 x3 M y h
      replace h := ao_ifT h rfl
      refine ao_aload_n 0 dX12_takeBackTo_0 rfl rfl ?_
      obtain ⟨hk1, h⟩ := ao_some h
      obtain ⟨j2, hj2, h⟩ := ao_bind h
      refine an_getR r0 12 34 (q := (RX12, TX12, 83)) dX12_takeBackTo_1 rfl hk1 (Nat.le_of_ble_eq_true rfl) rfl lf_X12_202 hj2 ?_
      refine ao_iload_n 1 dX12_takeBackTo_4 rfl rfl ?_
      obtain ⟨hk3, h⟩ := ao_some h
      obtain ⟨hb4, h⟩ := ao_some h
      refine an_iaload j2 dX12_takeBackTo_5 hk3 hb4 ?_
      refine ao_iconst (v := 1) dX12_takeBackTo_6 (by decide) ?_
      refine ao_isub dX12_takeBackTo_7 ?_
      refine an_topi (fun v5 hv5 => ?_)
      replace h := ao_letD h hv5
      refine ao_istore 4 (lo' := [some (.ref (Γ.2.2.2 + r0)), some (.int x1), some (.int x2), some (.int x3), some (.int v5)]) dX12_takeBackTo_8 (Nat.le_of_ble_eq_true rfl) rfl ?_
      exact ih.2.1 r0 x1 x2 x3 v5 M _ h
    · intro r0 x1 x2 x3 x4 M y h
      replace h := ao_ifF h (by decide)
      replace h := ao_ifT h rfl
      refine ao_iload 4 dX12_takeBackTo_10 rfl ?_
      refine ao_iload_n 2 dX12_takeBackTo_12 rfl rfl ?_
      refine ao_icmp_lt 50 dX12_takeBackTo_13 (by decide) (fun c6 => ?_) (fun c6 => ?_)
      · replace h := ao_ifT h c6
        refine ao_aload_n 0 dX12_takeBackTo_50 rfl rfl ?_
        obtain ⟨hk7, h⟩ := ao_some h
        obtain ⟨j8, hj8, h⟩ := ao_bind h
        refine an_getR r0 12 33 (q := (RX12, TX12, 83)) dX12_takeBackTo_51 rfl hk7 (Nat.le_of_ble_eq_true rfl) rfl lf_X12_199 hj8 ?_
        refine ao_iload_n 1 dX12_takeBackTo_54 rfl rfl ?_
        refine ao_iconst (v := 0) dX12_takeBackTo_55 (by decide) ?_
        obtain ⟨hk9, h⟩ := ao_some h
        obtain ⟨hb10, h⟩ := ao_some h
        refine an_iastore j8 dX12_takeBackTo_56 hk9 hb10 (fun M11 hM11 => ?_)
        replace h := ao_letD h hM11
        cases h
        exact ao_return dX12_takeBackTo_57 rfl ⟨rfl, rfl⟩
      · replace h := ao_ifF h c6
        refine ao_aload_n 0 dX12_takeBackTo_16 rfl rfl ?_
        refine ao_iload_n 1 dX12_takeBackTo_17 rfl rfl ?_
        refine ao_iload 4 dX12_takeBackTo_18 rfl ?_
        obtain ⟨hk12, h⟩ := ao_some h
        obtain ⟨p13, hp13, h⟩ := ao_bind h
        refine an_callVv r0 12 (q := (RX12, TX12, 83)) [.int x1, .int x4] (aX12_takeBack (d - 1) (by omega) _ r0 x1 x4 M ρ hp13) dX12_takeBackTo_20 lc_X12_373 li_X12_takeBack ls_X12_takeBack rfl hk12 rfl rfl (Nat.le_of_ble_eq_true rfl) (ao_hR (by omega) (by decide)) ?_
        refine ao_iload_n 3 dX12_takeBackTo_23 rfl rfl ?_
        refine ao_if_eq 37 dX12_takeBackTo_24 (by decide) (fun c14 => ?_) (fun c14 => ?_)
        · replace h := ao_ifT h c14
          refine ao_aload_n 0 dX12_takeBackTo_37 rfl rfl ?_
          refine ao_iload_n 1 dX12_takeBackTo_38 rfl rfl ?_
          refine ao_iload 4 dX12_takeBackTo_39 rfl ?_
          obtain ⟨p15, hp15, h⟩ := ao_bind h
          refine an_callVv r0 12 (q := (RX12, TX12, 83)) [.int x1, .int x4] (aX12_dropReads (d - 1) (by omega) _ r0 x1 x4 p13 ρ hp15) dX12_takeBackTo_41 lc_X12_379 li_X12_dropReads ls_X12_dropReads rfl hk12 rfl rfl (Nat.le_of_ble_eq_true rfl) (ao_hR (by omega) (by decide)) ?_
          exact ih.2.2 r0 x1 x2 x3 x4 p15 _ h
        · replace h := ao_ifF h c14
          refine ao_aload_n 0 dX12_takeBackTo_27 rfl rfl ?_
          refine ao_iload_n 1 dX12_takeBackTo_28 rfl rfl ?_
          refine ao_iload 4 dX12_takeBackTo_29 rfl ?_
          obtain ⟨p16, hp16, h⟩ := ao_bind h
          refine an_callVv r0 12 (q := (RX12, TX12, 83)) [.int x1, .int x4] (aX12_giveReads (d - 1) (by omega) _ r0 x1 x4 p13 ρ hp16) dX12_takeBackTo_31 lc_X12_376 li_X12_giveReads ls_X12_giveReads rfl hk12 rfl rfl (Nat.le_of_ble_eq_true rfl) (ao_hR (by omega) (by decide)) ?_
          refine ao_goto 44 dX12_takeBackTo_34 (by decide) ?_
          exact ih.2.2 r0 x1 x2 x3 x4 p16 _ h
    · intro r0 x1 x2 x3 x4 M y h
      replace h := ao_ifF h (by decide)
      replace h := ao_ifF h (by decide)
      replace h := ao_ifT h rfl
      obtain ⟨v17, hv17⟩ : ∃ z : Int32, z = x4 + (-1 : Int32) := ⟨_, rfl⟩
      replace h := ao_letD h hv17
      refine ao_iinc 4 (v := v17) (lo' := [some (.ref (Γ.2.2.2 + r0)), some (.int x1), some (.int x2), some (.int x3), some (.int v17)]) dX12_takeBackTo_44 rfl (by rw [hv17]; rfl) (Nat.le_of_ble_eq_true rfl) rfl ?_
      refine ao_goto 10 dX12_takeBackTo_47 (by decide) ?_
      exact ih.2.1 r0 x1 x2 x3 v17 M _ h
set_option maxRecDepth 100000 in
set_option maxHeartbeats 4000000 in
theorem aX12_takeBackTo {Γ : ao_C} (d : Nat) (hd : 2 ≤ d) (n : Nat) (r0 : Nat) (x1 : Int32) (x2 : Int32) (x3 : Int32) (M : ao_M) (ρ : ao_H) {y : ao_M} (h : gX12_takeBackTo n r0 x1 x2 x3 M ρ = some y) : ao_A Γ uX12_takeBackTo d 0 0 [.ref (Γ.2.2.2 + r0), .int x1, .int x2, .int x3] (M, ρ) (ao_PV ρ y) := by
  refine ao_of (by decide) (ao_cat1 (Nat.le_of_ble_eq_true rfl)) (Nat.le_of_ble_eq_true rfl) ?_
  show ao_W Γ uX12_takeBackTo (ao_rm d 0 0) (ao_Q Γ (ao_PV ρ y) 0 0) 0 0 0 [some (.ref (Γ.2.2.2 + r0)), some (.int x1), some (.int x2), some (.int x3), none] [] (M, ρ)
  exact (wX12_takeBackTo d hd n).1 r0 x1 x2 x3 M y h

abbrev uX12_free : ao_Mi := (yX12_free, cX12_free, 4, none, [])
def fX12_free : Nat → Nat → Nat → Int32 → Int32 → Int32 →  ao_M → ao_H → Option (ao_S)
  | 0, _, _, _, _, _, _, _ => none
  | n + 1, pc, r0, x1, x2, x3, M, ρ =>
    if pc = 0 then
      if ρ.2.1 r0 = 22 then
      (gX12_isEager n r0 M ρ).bind fun p2 =>
      if p2.1 = 0 then
        some (p2.2, ρ)
      else
        fX12_free n 12 r0 x1 (0 : Int32) (0 : Int32) p2.2 ρ
      else none
    else if pc = 12 then
      if (26 : Int32) ≤ x3 then
        if x2 = 0 then
          some (M, ρ)
        else
          if ρ.2.1 r0 = 22 then
          ao_let (ao_u M r0 26 ((M r0 26) + (1 : Int32))) fun M7 =>
          fX12_free n 53 r0 x1 x2 (0 : Int32) M7 ρ
          else none
      else
        if ρ.2.1 r0 = 22 then
        (ρ.1 r0 19).bind fun j9 =>
        if ρ.2.1 j9 = 0 then
        if ¬ (x3 < 0 ∨ ρ.2.2.1 j9 ≤ x3.toNatClampNeg) then
        if (M j9 x3.toNatClampNeg) = x1 then
          fX12_free n 30 r0 x1 (1 : Int32) x3 M ρ
        else
          fX12_free n 30 r0 x1 x2 x3 M ρ
        else none
        else none
        else none
    else if pc = 30 then
      ao_let (x3 + (1 : Int32)) fun v13 =>
      fX12_free n 12 r0 x1 x2 v13 M ρ
    else if pc = 53 then
      if (26 : Int32) ≤ x3 then
        some (M, ρ)
      else
        if ρ.2.1 r0 = 22 then
        (ρ.1 r0 19).bind fun j16 =>
        if ρ.2.1 j16 = 0 then
        if ¬ (x3 < 0 ∨ ρ.2.2.1 j16 ≤ x3.toNatClampNeg) then
        if (M j16 x3.toNatClampNeg) = x1 then
          ao_let (ao_u M j16 x3.toNatClampNeg (-1 : Int32)) fun M20 =>
          (gX12_remember n r0 x3 M20 ρ).bind fun p21 =>
          fX12_free n 84 r0 x1 x2 x3 p21.1 p21.2
        else
          fX12_free n 84 r0 x1 x2 x3 M ρ
        else none
        else none
        else none
    else if pc = 84 then
      ao_let (x3 + (1 : Int32)) fun v22 =>
      fX12_free n 53 r0 x1 x2 v22 M ρ
    else none
def gX12_free (n : Nat) (r0 : Nat) (x1 : Int32) (M : ao_M) (ρ : ao_H) : Option (ao_S) := fX12_free n 0 r0 x1 0 0 M ρ
set_option maxRecDepth 100000 in
set_option maxHeartbeats 4000000 in
theorem mX12_free : ∀ n : Nat, (∀ (r0 : Nat) (x1 : Int32) (M : ao_M) (ρ : ao_H) (y : ao_S), fX12_free n 0 r0 x1 0 0 M ρ = some y → ao_le ρ y.2) ∧ (∀ (r0 : Nat) (x1 : Int32) (x2 : Int32) (x3 : Int32) (M : ao_M) (ρ : ao_H) (y : ao_S), fX12_free n 12 r0 x1 x2 x3 M ρ = some y → ao_le ρ y.2) ∧ (∀ (r0 : Nat) (x1 : Int32) (x2 : Int32) (x3 : Int32) (M : ao_M) (ρ : ao_H) (y : ao_S), fX12_free n 30 r0 x1 x2 x3 M ρ = some y → ao_le ρ y.2) ∧ (∀ (r0 : Nat) (x1 : Int32) (x2 : Int32) (x3 : Int32) (M : ao_M) (ρ : ao_H) (y : ao_S), fX12_free n 53 r0 x1 x2 x3 M ρ = some y → ao_le ρ y.2) ∧ (∀ (r0 : Nat) (x1 : Int32) (x2 : Int32) (x3 : Int32) (M : ao_M) (ρ : ao_H) (y : ao_S), fX12_free n 84 r0 x1 x2 x3 M ρ = some y → ao_le ρ y.2) := by
  intro n
  induction n with
  | zero => exact ⟨fun _ _ _ _ _ h => ao_no h, fun _ _ _ _ _ _ _ h => ao_no h, fun _ _ _ _ _ _ _ h => ao_no h, fun _ _ _ _ _ _ _ h => ao_no h, fun _ _ _ _ _ _ _ h => ao_no h⟩
  | succ n ih =>
    refine ⟨?_, ?_, ?_, ?_, ?_⟩
    · intro r0 x1 M ρ y h
      replace h := ao_ifT h rfl
      obtain ⟨-, h⟩ := ao_some h
      obtain ⟨p2, hp2, h⟩ := ao_bind h
      rcases ao_ifC h with h | h
      · cases h
        exact ao_le_rf _
      · exact ih.2.1 r0 x1 (0 : Int32) (0 : Int32) p2.2 ρ _ h
    · intro r0 x1 x2 x3 M ρ y h
      replace h := ao_ifF h (by decide)
      replace h := ao_ifT h rfl
      rcases ao_ifC h with h | h
      · rcases ao_ifC h with h | h
        · cases h
          exact ao_le_rf _
        · obtain ⟨-, h⟩ := ao_some h
          replace h := ao_letD h rfl
          generalize (ao_u M r0 26 ((M r0 26) + (1 : Int32))) = M7 at h
          exact ih.2.2.2.1 r0 x1 x2 (0 : Int32) M7 ρ _ h
      · obtain ⟨-, h⟩ := ao_some h
        obtain ⟨j9, hj9, h⟩ := ao_bind h
        obtain ⟨-, h⟩ := ao_some h
        obtain ⟨-, h⟩ := ao_some h
        rcases ao_ifC h with h | h
        · exact ih.2.2.1 r0 x1 (1 : Int32) x3 M ρ _ h
        · exact ih.2.2.1 r0 x1 x2 x3 M ρ _ h
    · intro r0 x1 x2 x3 M ρ y h
      replace h := ao_ifF h (by decide)
      replace h := ao_ifF h (by decide)
      replace h := ao_ifT h rfl
      replace h := ao_letD h rfl
      generalize (x3 + (1 : Int32)) = v13 at h
      exact ih.2.1 r0 x1 x2 v13 M ρ _ h
    · intro r0 x1 x2 x3 M ρ y h
      replace h := ao_ifF h (by decide)
      replace h := ao_ifF h (by decide)
      replace h := ao_ifF h (by decide)
      replace h := ao_ifT h rfl
      rcases ao_ifC h with h | h
      · cases h
        exact ao_le_rf _
      · obtain ⟨-, h⟩ := ao_some h
        obtain ⟨j16, hj16, h⟩ := ao_bind h
        obtain ⟨-, h⟩ := ao_some h
        obtain ⟨-, h⟩ := ao_some h
        rcases ao_ifC h with h | h
        · replace h := ao_letD h rfl
          generalize (ao_u M j16 x3.toNatClampNeg (-1 : Int32)) = M20 at h
          obtain ⟨p21, hp21, h⟩ := ao_bind h
          exact ao_le_tr (me_X12_remember n r0 x3 M20 ρ hp21) (ih.2.2.2.2 r0 x1 x2 x3 p21.1 p21.2 _ h)
        · exact ih.2.2.2.2 r0 x1 x2 x3 M ρ _ h
    · intro r0 x1 x2 x3 M ρ y h
      replace h := ao_ifF h (by decide)
      replace h := ao_ifF h (by decide)
      replace h := ao_ifF h (by decide)
      replace h := ao_ifF h (by decide)
      replace h := ao_ifT h rfl
      replace h := ao_letD h rfl
      generalize (x3 + (1 : Int32)) = v22 at h
      exact ih.2.2.2.1 r0 x1 x2 v22 M ρ _ h
set_option maxRecDepth 100000 in
set_option maxHeartbeats 4000000 in
theorem wX12_free {Γ : ao_C} (d : Nat) (hd : 2 ≤ d) (MC MS : Nat) : ∀ n : Nat, (∀ (r0 : Nat) (x1 : Int32) (M : ao_M) (ρ : ao_H) (y : ao_S), fX12_free n 0 r0 x1 0 0 M ρ = some y → ao_W Γ uX12_free (ao_rm d MC MS) (ao_Q Γ (ao_QV y) MC MS) (ao_dc ρ y.2) (ao_ds ρ y.2) 0 [some (.ref (Γ.2.2.2 + r0)), some (.int x1), none, none] [] (M, ρ)) ∧ (∀ (r0 : Nat) (x1 : Int32) (x2 : Int32) (x3 : Int32) (M : ao_M) (ρ : ao_H) (y : ao_S), fX12_free n 12 r0 x1 x2 x3 M ρ = some y → ao_W Γ uX12_free (ao_rm d MC MS) (ao_Q Γ (ao_QV y) MC MS) (ao_dc ρ y.2) (ao_ds ρ y.2) 12 [some (.ref (Γ.2.2.2 + r0)), some (.int x1), some (.int x2), some (.int x3)] [] (M, ρ)) ∧ (∀ (r0 : Nat) (x1 : Int32) (x2 : Int32) (x3 : Int32) (M : ao_M) (ρ : ao_H) (y : ao_S), fX12_free n 30 r0 x1 x2 x3 M ρ = some y → ao_W Γ uX12_free (ao_rm d MC MS) (ao_Q Γ (ao_QV y) MC MS) (ao_dc ρ y.2) (ao_ds ρ y.2) 30 [some (.ref (Γ.2.2.2 + r0)), some (.int x1), some (.int x2), some (.int x3)] [] (M, ρ)) ∧ (∀ (r0 : Nat) (x1 : Int32) (x2 : Int32) (x3 : Int32) (M : ao_M) (ρ : ao_H) (y : ao_S), fX12_free n 53 r0 x1 x2 x3 M ρ = some y → ao_W Γ uX12_free (ao_rm d MC MS) (ao_Q Γ (ao_QV y) MC MS) (ao_dc ρ y.2) (ao_ds ρ y.2) 53 [some (.ref (Γ.2.2.2 + r0)), some (.int x1), some (.int x2), some (.int x3)] [] (M, ρ)) ∧ (∀ (r0 : Nat) (x1 : Int32) (x2 : Int32) (x3 : Int32) (M : ao_M) (ρ : ao_H) (y : ao_S), fX12_free n 84 r0 x1 x2 x3 M ρ = some y → ao_W Γ uX12_free (ao_rm d MC MS) (ao_Q Γ (ao_QV y) MC MS) (ao_dc ρ y.2) (ao_ds ρ y.2) 84 [some (.ref (Γ.2.2.2 + r0)), some (.int x1), some (.int x2), some (.int x3)] [] (M, ρ)) := by
  intro n
  induction n with
  | zero => exact ⟨fun _ _ _ _ _ h => ao_no h, fun _ _ _ _ _ _ _ h => ao_no h, fun _ _ _ _ _ _ _ h => ao_no h, fun _ _ _ _ _ _ _ h => ao_no h, fun _ _ _ _ _ _ _ h => ao_no h⟩
  | succ n ih =>
    refine ⟨?_, ?_, ?_, ?_, ?_⟩
    · intro r0 x1 M ρ y h
      replace h := ao_ifT h rfl
      refine ao_aload_n 0 dX12_free_0 rfl rfl ?_
      obtain ⟨hk1, h⟩ := ao_some h
      obtain ⟨p2, hp2, h⟩ := ao_bind h
      refine an_callVi r0 12 (q := (RX12, TX12, 83)) [] (aX12_isEager (d - 1) (by omega) _ r0 M ρ hp2) dX12_free_1 lc_X12_369 li_X12_isEager ls_X12_isEager rfl hk1 rfl rfl (Nat.le_of_ble_eq_true rfl) (ao_hR (by omega) (by decide)) ?_
      refine ao_if_ne 8 dX12_free_4 (by decide) (fun c3 => ?_) (fun c3 => ?_)
      · replace h := ao_ifF h c3
        refine ao_iconst (v := 0) dX12_free_8 (by decide) ?_
        refine ao_istore_n 2 (lo' := [some (.ref (Γ.2.2.2 + r0)), some (.int x1), some (.int (0 : Int32)), none]) dX12_free_9 rfl (Nat.le_of_ble_eq_true rfl) rfl ?_
        refine ao_iconst (v := 0) dX12_free_10 (by decide) ?_
        refine ao_istore_n 3 (lo' := [some (.ref (Γ.2.2.2 + r0)), some (.int x1), some (.int (0 : Int32)), some (.int (0 : Int32))]) dX12_free_11 rfl (Nat.le_of_ble_eq_true rfl) rfl ?_
        exact ih.2.1 r0 x1 (0 : Int32) (0 : Int32) p2.2 ρ _ h
      · replace h := ao_ifT h c3
        cases h
        exact ao_return dX12_free_7 rfl ⟨rfl, rfl⟩
    · intro r0 x1 x2 x3 M ρ y h
      replace h := ao_ifF h (by decide)
      replace h := ao_ifT h rfl
      refine ao_iload_n 3 dX12_free_12 rfl rfl ?_
      refine ao_bipush (v := 26) dX12_free_13 (by decide) ?_
      refine ao_icmp_ge 36 dX12_free_15 (by decide) (fun c4 => ?_) (fun c4 => ?_)
      · replace h := ao_ifT h c4
        refine ao_iload_n 2 dX12_free_36 rfl rfl ?_
        refine ao_if_ne 41 dX12_free_37 (by decide) (fun c5 => ?_) (fun c5 => ?_)
        · replace h := ao_ifF h c5
          refine ao_aload_n 0 dX12_free_41 rfl rfl ?_
          refine ao_dup dX12_free_42 rfl ?_
          obtain ⟨hk6, h⟩ := ao_some h
          refine an_getI r0 12 26 (q := (RX12, TX12, 83)) dX12_free_43 rfl hk6 (Nat.le_of_ble_eq_true rfl) rfl lf_X12_148 ?_
          refine ao_iconst (v := 1) dX12_free_46 (by decide) ?_
          refine ao_iadd dX12_free_47 ?_
          refine an_putI r0 12 26 (q := (RX12, TX12, 83)) dX12_free_48 rfl hk6 (Nat.le_of_ble_eq_true rfl) lf_X12_148 rfl rfl rfl rfl (fun M7 hM7 => ?_)
          replace h := ao_letD h hM7
          refine ao_iconst (v := 0) dX12_free_51 (by decide) ?_
          refine ao_istore_n 3 (lo' := [some (.ref (Γ.2.2.2 + r0)), some (.int x1), some (.int x2), some (.int (0 : Int32))]) dX12_free_52 rfl (Nat.le_of_ble_eq_true rfl) rfl ?_
          exact ih.2.2.2.1 r0 x1 x2 (0 : Int32) M7 ρ _ h
        · replace h := ao_ifT h c5
          cases h
          exact ao_return dX12_free_40 rfl ⟨rfl, rfl⟩
      · replace h := ao_ifF h c4
        refine ao_aload_n 0 dX12_free_18 rfl rfl ?_
        obtain ⟨hk8, h⟩ := ao_some h
        obtain ⟨j9, hj9, h⟩ := ao_bind h
        refine an_getR r0 12 19 (q := (RX12, TX12, 83)) dX12_free_19 rfl hk8 (Nat.le_of_ble_eq_true rfl) rfl lf_X12_177 hj9 ?_
        refine ao_iload_n 3 dX12_free_22 rfl rfl ?_
        obtain ⟨hk10, h⟩ := ao_some h
        obtain ⟨hb11, h⟩ := ao_some h
        refine an_iaload j9 dX12_free_23 hk10 hb11 ?_
        refine ao_iload_n 1 dX12_free_24 rfl rfl ?_
        refine ao_icmp_ne 30 dX12_free_25 (by decide) (fun c12 => ?_) (fun c12 => ?_)
        · replace h := ao_ifF h c12
          exact ih.2.2.1 r0 x1 x2 x3 M ρ _ h
        · replace h := ao_ifT h c12
          refine ao_iconst (v := 1) dX12_free_28 (by decide) ?_
          refine ao_istore_n 2 (lo' := [some (.ref (Γ.2.2.2 + r0)), some (.int x1), some (.int (1 : Int32)), some (.int x3)]) dX12_free_29 rfl (Nat.le_of_ble_eq_true rfl) rfl ?_
          exact ih.2.2.1 r0 x1 (1 : Int32) x3 M ρ _ h
    · intro r0 x1 x2 x3 M ρ y h
      replace h := ao_ifF h (by decide)
      replace h := ao_ifF h (by decide)
      replace h := ao_ifT h rfl
      obtain ⟨v13, hv13⟩ : ∃ z : Int32, z = x3 + (1 : Int32) := ⟨_, rfl⟩
      replace h := ao_letD h hv13
      refine ao_iinc 3 (v := v13) (lo' := [some (.ref (Γ.2.2.2 + r0)), some (.int x1), some (.int x2), some (.int v13)]) dX12_free_30 rfl (by rw [hv13]; rfl) (Nat.le_of_ble_eq_true rfl) rfl ?_
      refine ao_goto 12 dX12_free_33 (by decide) ?_
      exact ih.2.1 r0 x1 x2 v13 M ρ _ h
    · intro r0 x1 x2 x3 M ρ y h
      replace h := ao_ifF h (by decide)
      replace h := ao_ifF h (by decide)
      replace h := ao_ifF h (by decide)
      replace h := ao_ifT h rfl
      refine ao_iload_n 3 dX12_free_53 rfl rfl ?_
      refine ao_bipush (v := 26) dX12_free_54 (by decide) ?_
      refine ao_icmp_ge 90 dX12_free_56 (by decide) (fun c14 => ?_) (fun c14 => ?_)
      · replace h := ao_ifT h c14
        cases h
        exact ao_return dX12_free_90 rfl ⟨rfl, rfl⟩
      · replace h := ao_ifF h c14
        refine ao_aload_n 0 dX12_free_59 rfl rfl ?_
        obtain ⟨hk15, h⟩ := ao_some h
        obtain ⟨j16, hj16, h⟩ := ao_bind h
        refine an_getR r0 12 19 (q := (RX12, TX12, 83)) dX12_free_60 rfl hk15 (Nat.le_of_ble_eq_true rfl) rfl lf_X12_177 hj16 ?_
        refine ao_iload_n 3 dX12_free_63 rfl rfl ?_
        obtain ⟨hk17, h⟩ := ao_some h
        obtain ⟨hb18, h⟩ := ao_some h
        refine an_iaload j16 dX12_free_64 hk17 hb18 ?_
        refine ao_iload_n 1 dX12_free_65 rfl rfl ?_
        refine ao_icmp_eq 72 dX12_free_66 (by decide) (fun c19 => ?_) (fun c19 => ?_)
        · replace h := ao_ifT h c19
          refine ao_aload_n 0 dX12_free_72 rfl rfl ?_
          refine an_getR r0 12 19 (q := (RX12, TX12, 83)) dX12_free_73 rfl hk15 (Nat.le_of_ble_eq_true rfl) rfl lf_X12_177 hj16 ?_
          refine ao_iload_n 3 dX12_free_76 rfl rfl ?_
          refine ao_iconst (v := (-1)) dX12_free_77 (by decide) ?_
          refine an_iastore j16 dX12_free_78 hk17 hb18 (fun M20 hM20 => ?_)
          replace h := ao_letD h hM20
          refine ao_aload_n 0 dX12_free_79 rfl rfl ?_
          refine ao_iload_n 3 dX12_free_80 rfl rfl ?_
          obtain ⟨p21, hp21, h⟩ := ao_bind h
          refine ba_callVv r0 12 (q := (RX12, TX12, 83)) [.int x3] (aX12_remember (d - 1) (by omega) n r0 x3 M20 ρ hp21) dX12_free_81 lc_X12_160 li_X12_remember ls_X12_remember rfl hk15 rfl rfl (Nat.le_of_ble_eq_true rfl) (ao_hR (by omega) (by decide)) (ao_leC (me_X12_remember n r0 x3 M20 ρ hp21) ((mX12_free n).2.2.2.2 r0 x1 x2 x3 p21.1 p21.2 _ h)) (ao_leS (me_X12_remember n r0 x3 M20 ρ hp21) ((mX12_free n).2.2.2.2 r0 x1 x2 x3 p21.1 p21.2 _ h)) ?_
          exact ih.2.2.2.2 r0 x1 x2 x3 p21.1 p21.2 _ h
        · replace h := ao_ifF h c19
          refine ao_goto 84 dX12_free_69 (by decide) ?_
          exact ih.2.2.2.2 r0 x1 x2 x3 M ρ _ h
    · intro r0 x1 x2 x3 M ρ y h
      replace h := ao_ifF h (by decide)
      replace h := ao_ifF h (by decide)
      replace h := ao_ifF h (by decide)
      replace h := ao_ifF h (by decide)
      replace h := ao_ifT h rfl
      obtain ⟨v22, hv22⟩ : ∃ z : Int32, z = x3 + (1 : Int32) := ⟨_, rfl⟩
      replace h := ao_letD h hv22
      refine ao_iinc 3 (v := v22) (lo' := [some (.ref (Γ.2.2.2 + r0)), some (.int x1), some (.int x2), some (.int v22)]) dX12_free_84 rfl (by rw [hv22]; rfl) (Nat.le_of_ble_eq_true rfl) rfl ?_
      refine ao_goto 53 dX12_free_87 (by decide) ?_
      exact ih.2.2.2.1 r0 x1 x2 v22 M ρ _ h
theorem me_X12_free (n : Nat) (r0 : Nat) (x1 : Int32) (M : ao_M) (ρ : ao_H) {y : ao_S} (h : gX12_free n r0 x1 M ρ = some y) : ao_le ρ y.2 := (mX12_free n).1 r0 x1 M ρ y h
set_option maxRecDepth 100000 in
set_option maxHeartbeats 4000000 in
theorem aX12_free {Γ : ao_C} (d : Nat) (hd : 2 ≤ d) (n : Nat) (r0 : Nat) (x1 : Int32) (M : ao_M) (ρ : ao_H) {y : ao_S} (h : gX12_free n r0 x1 M ρ = some y) : ao_A Γ uX12_free d (ao_dc ρ y.2) (ao_ds ρ y.2) [.ref (Γ.2.2.2 + r0), .int x1] (M, ρ) (ao_QV y) := by
  refine ao_of (by decide) (ao_cat1 (Nat.le_of_ble_eq_true rfl)) (Nat.le_of_ble_eq_true rfl) ?_
  show ao_W Γ uX12_free (ao_rm d (ao_dc ρ y.2) (ao_ds ρ y.2)) (ao_Q Γ (ao_QV y) (ao_dc ρ y.2) (ao_ds ρ y.2)) (ao_dc ρ y.2) (ao_ds ρ y.2) 0 [some (.ref (Γ.2.2.2 + r0)), some (.int x1), none, none] [] (M, ρ)
  exact (wX12_free d hd _ _ n).1 r0 x1 M ρ y h

abbrev uX12_restart : ao_Mi := (yX12_restart, cX12_restart, 4, none, [])
def fX12_restart : Nat → Nat → Nat → Int32 → Int32 →  ao_M → ao_H → Option (ao_S)
  | 0, _, _, _, _, _, _ => none
  | n + 1, pc, r0, x1, x2, M, ρ =>
    if pc = 0 then
      if ρ.2.1 r0 = 22 then
      (gX12_takeBackTo n r0 x1 x2 (0 : Int32) M ρ).bind fun p2 =>
      if x2 = 0 then
        (gX12_free n r0 x1 p2 ρ).bind fun p4 =>
        fX12_restart n 16 r0 x1 x2 p4.1 p4.2
      else
        fX12_restart n 26 r0 x1 x2 p2 ρ
      else none
    else if pc = 16 then
      if ρ.2.1 r0 = 22 then
      (ρ.1 r0 42).bind fun j6 =>
      if ρ.2.1 j6 = 0 then
      if ¬ (x1 < 0 ∨ ρ.2.2.1 j6 ≤ x1.toNatClampNeg) then
      ao_let (ao_u M j6 x1.toNatClampNeg (M r0 65)) fun M9 =>
      fX12_restart n 26 r0 x1 x2 M9 ρ
      else none
      else none
      else none
    else if pc = 26 then
      if ρ.2.1 r0 = 22 then
      (gX12_level r0 x1 x2 M ρ).bind fun p11 =>
      ao_let p11.1 fun v12 =>
      (ρ.1 r0 30).bind fun j13 =>
      (ρ.1 r0 48).bind fun j14 =>
      if ρ.2.1 j14 = 0 then
      if ¬ (v12 < 0 ∨ ρ.2.2.1 j14 ≤ v12.toNatClampNeg) then
      if ρ.2.1 j13 = 0 then
      if ¬ (x1 < 0 ∨ ρ.2.2.1 j13 ≤ x1.toNatClampNeg) then
      ao_let (ao_u p11.2 j13 x1.toNatClampNeg (p11.2 j14 v12.toNatClampNeg)) fun M19 =>
      (ρ.1 r0 54).bind fun j20 =>
      if ρ.2.1 j20 = 2 then
      if ¬ (v12 < 0 ∨ ρ.2.2.1 j20 ≤ v12.toNatClampNeg) then
      ao_let (ao_u M19 j20 v12.toNatClampNeg (0 : Int32)) fun M23 =>
      (ρ.1 r0 35).bind fun j24 =>
      (ρ.1 r0 51).bind fun j25 =>
      if ρ.2.1 j25 = 0 then
      if ¬ (v12 < 0 ∨ ρ.2.2.1 j25 ≤ v12.toNatClampNeg) then
      if ρ.2.1 j24 = 0 then
      if ¬ (x1 < 0 ∨ ρ.2.2.1 j24 ≤ x1.toNatClampNeg) then
      ao_let (ao_u M23 j24 x1.toNatClampNeg (M23 j25 v12.toNatClampNeg)) fun M30 =>
      (ρ.1 r0 36).bind fun j31 =>
      (ρ.1 r0 52).bind fun j32 =>
      if ρ.2.1 j32 = 0 then
      if ¬ (v12 < 0 ∨ ρ.2.2.1 j32 ≤ v12.toNatClampNeg) then
      if ρ.2.1 j31 = 0 then
      if ¬ (x1 < 0 ∨ ρ.2.2.1 j31 ≤ x1.toNatClampNeg) then
      ao_let (ao_u M30 j31 x1.toNatClampNeg (M30 j32 v12.toNatClampNeg)) fun M37 =>
      (ρ.1 r0 34).bind fun j38 =>
      if ρ.2.1 j38 = 0 then
      if ¬ (x1 < 0 ∨ ρ.2.2.1 j38 ≤ x1.toNatClampNeg) then
      ao_let (ao_u M37 j38 x1.toNatClampNeg (x2 + (1 : Int32))) fun M41 =>
      (ρ.1 r0 38).bind fun j42 =>
      if ρ.2.1 j42 = 0 then
      if ¬ (x1 < 0 ∨ ρ.2.2.1 j42 ≤ x1.toNatClampNeg) then
      ao_let (ao_u M41 j42 x1.toNatClampNeg (M41 r0 26)) fun M45 =>
      (ρ.1 r0 37).bind fun j46 =>
      if ρ.2.1 j46 = 0 then
      if ¬ (x1 < 0 ∨ ρ.2.2.1 j46 ≤ x1.toNatClampNeg) then
      ao_let (ao_u M45 j46 x1.toNatClampNeg ((M45 j46 x1.toNatClampNeg) + (1 : Int32))) fun M49 =>
      some (M49, ρ)
      else none
      else none
      else none
      else none
      else none
      else none
      else none
      else none
      else none
      else none
      else none
      else none
      else none
      else none
      else none
      else none
      else none
      else none
      else none
      else none
      else none
    else none
def gX12_restart (n : Nat) (r0 : Nat) (x1 : Int32) (x2 : Int32) (M : ao_M) (ρ : ao_H) : Option (ao_S) := fX12_restart n 0 r0 x1 x2 M ρ
set_option maxRecDepth 100000 in
set_option maxHeartbeats 4000000 in
theorem mX12_restart : ∀ n : Nat, (∀ (r0 : Nat) (x1 : Int32) (x2 : Int32) (M : ao_M) (ρ : ao_H) (y : ao_S), fX12_restart n 0 r0 x1 x2 M ρ = some y → ao_le ρ y.2) ∧ (∀ (r0 : Nat) (x1 : Int32) (x2 : Int32) (M : ao_M) (ρ : ao_H) (y : ao_S), fX12_restart n 16 r0 x1 x2 M ρ = some y → ao_le ρ y.2) ∧ (∀ (r0 : Nat) (x1 : Int32) (x2 : Int32) (M : ao_M) (ρ : ao_H) (y : ao_S), fX12_restart n 26 r0 x1 x2 M ρ = some y → ao_le ρ y.2) := by
  intro n
  induction n with
  | zero => exact ⟨fun _ _ _ _ _ _ h => ao_no h, fun _ _ _ _ _ _ h => ao_no h, fun _ _ _ _ _ _ h => ao_no h⟩
  | succ n ih =>
    refine ⟨?_, ?_, ?_⟩
    · intro r0 x1 x2 M ρ y h
      replace h := ao_ifT h rfl
      obtain ⟨-, h⟩ := ao_some h
      obtain ⟨p2, hp2, h⟩ := ao_bind h
      rcases ao_ifC h with h | h
      · obtain ⟨p4, hp4, h⟩ := ao_bind h
        exact ao_le_tr (me_X12_free n r0 x1 p2 ρ hp4) (ih.2.1 r0 x1 x2 p4.1 p4.2 _ h)
      · exact ih.2.2 r0 x1 x2 p2 ρ _ h
    · intro r0 x1 x2 M ρ y h
      replace h := ao_ifF h (by decide)
      replace h := ao_ifT h rfl
      obtain ⟨-, h⟩ := ao_some h
      obtain ⟨j6, hj6, h⟩ := ao_bind h
      obtain ⟨-, h⟩ := ao_some h
      obtain ⟨-, h⟩ := ao_some h
      replace h := ao_letD h rfl
      generalize (ao_u M j6 x1.toNatClampNeg (M r0 65)) = M9 at h
      exact ih.2.2 r0 x1 x2 M9 ρ _ h
    · intro r0 x1 x2 M ρ y h
      replace h := ao_ifF h (by decide)
      replace h := ao_ifF h (by decide)
      replace h := ao_ifT h rfl
      obtain ⟨-, h⟩ := ao_some h
      obtain ⟨p11, hp11, h⟩ := ao_bind h
      replace h := ao_letD h rfl
      generalize p11.1 = v12 at h
      obtain ⟨j13, hj13, h⟩ := ao_bind h
      obtain ⟨j14, hj14, h⟩ := ao_bind h
      obtain ⟨-, h⟩ := ao_some h
      obtain ⟨-, h⟩ := ao_some h
      obtain ⟨-, h⟩ := ao_some h
      obtain ⟨-, h⟩ := ao_some h
      replace h := ao_letD h rfl
      generalize (ao_u p11.2 j13 x1.toNatClampNeg (p11.2 j14 v12.toNatClampNeg)) = M19 at h
      obtain ⟨j20, hj20, h⟩ := ao_bind h
      obtain ⟨-, h⟩ := ao_some h
      obtain ⟨-, h⟩ := ao_some h
      replace h := ao_letD h rfl
      generalize (ao_u M19 j20 v12.toNatClampNeg (0 : Int32)) = M23 at h
      obtain ⟨j24, hj24, h⟩ := ao_bind h
      obtain ⟨j25, hj25, h⟩ := ao_bind h
      obtain ⟨-, h⟩ := ao_some h
      obtain ⟨-, h⟩ := ao_some h
      obtain ⟨-, h⟩ := ao_some h
      obtain ⟨-, h⟩ := ao_some h
      replace h := ao_letD h rfl
      generalize (ao_u M23 j24 x1.toNatClampNeg (M23 j25 v12.toNatClampNeg)) = M30 at h
      obtain ⟨j31, hj31, h⟩ := ao_bind h
      obtain ⟨j32, hj32, h⟩ := ao_bind h
      obtain ⟨-, h⟩ := ao_some h
      obtain ⟨-, h⟩ := ao_some h
      obtain ⟨-, h⟩ := ao_some h
      obtain ⟨-, h⟩ := ao_some h
      replace h := ao_letD h rfl
      generalize (ao_u M30 j31 x1.toNatClampNeg (M30 j32 v12.toNatClampNeg)) = M37 at h
      obtain ⟨j38, hj38, h⟩ := ao_bind h
      obtain ⟨-, h⟩ := ao_some h
      obtain ⟨-, h⟩ := ao_some h
      replace h := ao_letD h rfl
      generalize (ao_u M37 j38 x1.toNatClampNeg (x2 + (1 : Int32))) = M41 at h
      obtain ⟨j42, hj42, h⟩ := ao_bind h
      obtain ⟨-, h⟩ := ao_some h
      obtain ⟨-, h⟩ := ao_some h
      replace h := ao_letD h rfl
      generalize (ao_u M41 j42 x1.toNatClampNeg (M41 r0 26)) = M45 at h
      obtain ⟨j46, hj46, h⟩ := ao_bind h
      obtain ⟨-, h⟩ := ao_some h
      obtain ⟨-, h⟩ := ao_some h
      replace h := ao_letD h rfl
      generalize (ao_u M45 j46 x1.toNatClampNeg ((M45 j46 x1.toNatClampNeg) + (1 : Int32))) = M49 at h
      cases h
      exact ao_le_rf _
set_option maxRecDepth 100000 in
set_option maxHeartbeats 4000000 in
theorem wX12_restart {Γ : ao_C} (d : Nat) (hd : 3 ≤ d) (MC MS : Nat) : ∀ n : Nat, (∀ (r0 : Nat) (x1 : Int32) (x2 : Int32) (M : ao_M) (ρ : ao_H) (y : ao_S), fX12_restart n 0 r0 x1 x2 M ρ = some y → ao_W Γ uX12_restart (ao_rm d MC MS) (ao_Q Γ (ao_QV y) MC MS) (ao_dc ρ y.2) (ao_ds ρ y.2) 0 [some (.ref (Γ.2.2.2 + r0)), some (.int x1), some (.int x2), none] [] (M, ρ)) ∧ (∀ (r0 : Nat) (x1 : Int32) (x2 : Int32) (M : ao_M) (ρ : ao_H) (y : ao_S), fX12_restart n 16 r0 x1 x2 M ρ = some y → ao_W Γ uX12_restart (ao_rm d MC MS) (ao_Q Γ (ao_QV y) MC MS) (ao_dc ρ y.2) (ao_ds ρ y.2) 16 [some (.ref (Γ.2.2.2 + r0)), some (.int x1), some (.int x2), none] [] (M, ρ)) ∧ (∀ (r0 : Nat) (x1 : Int32) (x2 : Int32) (M : ao_M) (ρ : ao_H) (y : ao_S), fX12_restart n 26 r0 x1 x2 M ρ = some y → ao_W Γ uX12_restart (ao_rm d MC MS) (ao_Q Γ (ao_QV y) MC MS) (ao_dc ρ y.2) (ao_ds ρ y.2) 26 [some (.ref (Γ.2.2.2 + r0)), some (.int x1), some (.int x2), none] [] (M, ρ)) := by
  intro n
  induction n with
  | zero => exact ⟨fun _ _ _ _ _ _ h => ao_no h, fun _ _ _ _ _ _ h => ao_no h, fun _ _ _ _ _ _ h => ao_no h⟩
  | succ n ih =>
    refine ⟨?_, ?_, ?_⟩
    · intro r0 x1 x2 M ρ y h
      replace h := ao_ifT h rfl
      refine ao_aload_n 0 dX12_restart_0 rfl rfl ?_
      refine ao_iload_n 1 dX12_restart_1 rfl rfl ?_
      refine ao_iload_n 2 dX12_restart_2 rfl rfl ?_
      refine ao_iconst (v := 0) dX12_restart_3 (by decide) ?_
      obtain ⟨hk1, h⟩ := ao_some h
      obtain ⟨p2, hp2, h⟩ := ao_bind h
      refine an_callVv r0 12 (q := (RX12, TX12, 83)) [.int x1, .int x2, .int (0 : Int32)] (aX12_takeBackTo (d - 1) (by omega) _ r0 x1 x2 (0 : Int32) M ρ hp2) dX12_restart_4 lc_X12_382 li_X12_takeBackTo ls_X12_takeBackTo rfl hk1 rfl rfl (Nat.le_of_ble_eq_true rfl) (ao_hR (by omega) (by decide)) ?_
      refine ao_iload_n 2 dX12_restart_7 rfl rfl ?_
      refine ao_if_ne 26 dX12_restart_8 (by decide) (fun c3 => ?_) (fun c3 => ?_)
      · replace h := ao_ifF h c3
        exact ih.2.2 r0 x1 x2 p2 ρ _ h
      · replace h := ao_ifT h c3
        refine ao_aload_n 0 dX12_restart_11 rfl rfl ?_
        refine ao_iload_n 1 dX12_restart_12 rfl rfl ?_
        obtain ⟨p4, hp4, h⟩ := ao_bind h
        refine ba_callVv r0 12 (q := (RX12, TX12, 83)) [.int x1] (aX12_free (d - 1) (by omega) n r0 x1 p2 ρ hp4) dX12_restart_13 lc_X12_386 li_X12_free ls_X12_free rfl hk1 rfl rfl (Nat.le_of_ble_eq_true rfl) (ao_hR (by omega) (by decide)) (ao_leC (me_X12_free n r0 x1 p2 ρ hp4) ((mX12_restart n).2.1 r0 x1 x2 p4.1 p4.2 _ h)) (ao_leS (me_X12_free n r0 x1 p2 ρ hp4) ((mX12_restart n).2.1 r0 x1 x2 p4.1 p4.2 _ h)) ?_
        exact ih.2.1 r0 x1 x2 p4.1 p4.2 _ h
    · intro r0 x1 x2 M ρ y h
      replace h := ao_ifF h (by decide)
      replace h := ao_ifT h rfl
      refine ao_aload_n 0 dX12_restart_16 rfl rfl ?_
      obtain ⟨hk5, h⟩ := ao_some h
      obtain ⟨j6, hj6, h⟩ := ao_bind h
      refine an_getR r0 12 42 (q := (RX12, TX12, 83)) dX12_restart_17 rfl hk5 (Nat.le_of_ble_eq_true rfl) rfl lf_X12_226 hj6 ?_
      refine ao_iload_n 1 dX12_restart_20 rfl rfl ?_
      refine ao_aload_n 0 dX12_restart_21 rfl rfl ?_
      refine an_getI r0 12 65 (q := (RX12, TX12, 83)) dX12_restart_22 rfl hk5 (Nat.le_of_ble_eq_true rfl) rfl lf_X12_341 ?_
      obtain ⟨hk7, h⟩ := ao_some h
      obtain ⟨hb8, h⟩ := ao_some h
      refine an_iastore j6 dX12_restart_25 hk7 hb8 (fun M9 hM9 => ?_)
      replace h := ao_letD h hM9
      exact ih.2.2 r0 x1 x2 M9 ρ _ h
    · intro r0 x1 x2 M ρ y h
      replace h := ao_ifF h (by decide)
      replace h := ao_ifF h (by decide)
      replace h := ao_ifT h rfl
      refine ao_aload_n 0 dX12_restart_26 rfl rfl ?_
      refine ao_iload_n 1 dX12_restart_27 rfl rfl ?_
      refine ao_iload_n 2 dX12_restart_28 rfl rfl ?_
      obtain ⟨hk10, h⟩ := ao_some h
      obtain ⟨p11, hp11, h⟩ := ao_bind h
      refine an_callVi r0 12 (q := (RX12, TX12, 83)) [.int x1, .int x2] (aX12_level (d - 1) (by omega) r0 x1 x2 M ρ hp11) dX12_restart_29 lc_X12_360 li_X12_level ls_X12_level rfl hk10 rfl rfl (Nat.le_of_ble_eq_true rfl) (ao_hR (by omega) (by decide)) ?_
      refine an_topi (fun v12 hv12 => ?_)
      replace h := ao_letD h hv12
      refine ao_istore_n 3 (lo' := [some (.ref (Γ.2.2.2 + r0)), some (.int x1), some (.int x2), some (.int v12)]) dX12_restart_32 rfl (Nat.le_of_ble_eq_true rfl) rfl ?_
      refine ao_aload_n 0 dX12_restart_33 rfl rfl ?_
      obtain ⟨j13, hj13, h⟩ := ao_bind h
      refine an_getR r0 12 30 (q := (RX12, TX12, 83)) dX12_restart_34 rfl hk10 (Nat.le_of_ble_eq_true rfl) rfl lf_X12_190 hj13 ?_
      refine ao_iload_n 1 dX12_restart_37 rfl rfl ?_
      refine ao_aload_n 0 dX12_restart_38 rfl rfl ?_
      obtain ⟨j14, hj14, h⟩ := ao_bind h
      refine an_getR r0 12 48 (q := (RX12, TX12, 83)) dX12_restart_39 rfl hk10 (Nat.le_of_ble_eq_true rfl) rfl lf_X12_244 hj14 ?_
      refine ao_iload_n 3 dX12_restart_42 rfl rfl ?_
      obtain ⟨hk15, h⟩ := ao_some h
      obtain ⟨hb16, h⟩ := ao_some h
      refine an_iaload j14 dX12_restart_43 hk15 hb16 ?_
      obtain ⟨hk17, h⟩ := ao_some h
      obtain ⟨hb18, h⟩ := ao_some h
      refine an_iastore j13 dX12_restart_44 hk17 hb18 (fun M19 hM19 => ?_)
      replace h := ao_letD h hM19
      refine ao_aload_n 0 dX12_restart_45 rfl rfl ?_
      obtain ⟨j20, hj20, h⟩ := ao_bind h
      refine an_getR r0 12 54 (q := (RX12, TX12, 83)) dX12_restart_46 rfl hk10 (Nat.le_of_ble_eq_true rfl) rfl lf_X12_262 hj20 ?_
      refine ao_iload_n 3 dX12_restart_49 rfl rfl ?_
      refine ao_iconst (v := 0) dX12_restart_50 (by decide) ?_
      obtain ⟨hk21, h⟩ := ao_some h
      obtain ⟨hb22, h⟩ := ao_some h
      refine an_zastore j20 dX12_restart_51 hk21 hb22 rfl (fun M23 hM23 => ?_)
      replace h := ao_letD h hM23
      refine ao_aload_n 0 dX12_restart_52 rfl rfl ?_
      obtain ⟨j24, hj24, h⟩ := ao_bind h
      refine an_getR r0 12 35 (q := (RX12, TX12, 83)) dX12_restart_53 rfl hk10 (Nat.le_of_ble_eq_true rfl) rfl lf_X12_205 hj24 ?_
      refine ao_iload_n 1 dX12_restart_56 rfl rfl ?_
      refine ao_aload_n 0 dX12_restart_57 rfl rfl ?_
      obtain ⟨j25, hj25, h⟩ := ao_bind h
      refine an_getR r0 12 51 (q := (RX12, TX12, 83)) dX12_restart_58 rfl hk10 (Nat.le_of_ble_eq_true rfl) rfl lf_X12_253 hj25 ?_
      refine ao_iload_n 3 dX12_restart_61 rfl rfl ?_
      obtain ⟨hk26, h⟩ := ao_some h
      obtain ⟨hb27, h⟩ := ao_some h
      refine an_iaload j25 dX12_restart_62 hk26 hb27 ?_
      obtain ⟨hk28, h⟩ := ao_some h
      obtain ⟨hb29, h⟩ := ao_some h
      refine an_iastore j24 dX12_restart_63 hk28 hb29 (fun M30 hM30 => ?_)
      replace h := ao_letD h hM30
      refine ao_aload_n 0 dX12_restart_64 rfl rfl ?_
      obtain ⟨j31, hj31, h⟩ := ao_bind h
      refine an_getR r0 12 36 (q := (RX12, TX12, 83)) dX12_restart_65 rfl hk10 (Nat.le_of_ble_eq_true rfl) rfl lf_X12_208 hj31 ?_
      refine ao_iload_n 1 dX12_restart_68 rfl rfl ?_
      refine ao_aload_n 0 dX12_restart_69 rfl rfl ?_
      obtain ⟨j32, hj32, h⟩ := ao_bind h
      refine an_getR r0 12 52 (q := (RX12, TX12, 83)) dX12_restart_70 rfl hk10 (Nat.le_of_ble_eq_true rfl) rfl lf_X12_256 hj32 ?_
      refine ao_iload_n 3 dX12_restart_73 rfl rfl ?_
      obtain ⟨hk33, h⟩ := ao_some h
      obtain ⟨hb34, h⟩ := ao_some h
      refine an_iaload j32 dX12_restart_74 hk33 hb34 ?_
      obtain ⟨hk35, h⟩ := ao_some h
      obtain ⟨hb36, h⟩ := ao_some h
      refine an_iastore j31 dX12_restart_75 hk35 hb36 (fun M37 hM37 => ?_)
      replace h := ao_letD h hM37
      refine ao_aload_n 0 dX12_restart_76 rfl rfl ?_
      obtain ⟨j38, hj38, h⟩ := ao_bind h
      refine an_getR r0 12 34 (q := (RX12, TX12, 83)) dX12_restart_77 rfl hk10 (Nat.le_of_ble_eq_true rfl) rfl lf_X12_202 hj38 ?_
      refine ao_iload_n 1 dX12_restart_80 rfl rfl ?_
      refine ao_iload_n 2 dX12_restart_81 rfl rfl ?_
      refine ao_iconst (v := 1) dX12_restart_82 (by decide) ?_
      refine ao_iadd dX12_restart_83 ?_
      obtain ⟨hk39, h⟩ := ao_some h
      obtain ⟨hb40, h⟩ := ao_some h
      refine an_iastore j38 dX12_restart_84 hk39 hb40 (fun M41 hM41 => ?_)
      replace h := ao_letD h hM41
      refine ao_aload_n 0 dX12_restart_85 rfl rfl ?_
      obtain ⟨j42, hj42, h⟩ := ao_bind h
      refine an_getR r0 12 38 (q := (RX12, TX12, 83)) dX12_restart_86 rfl hk10 (Nat.le_of_ble_eq_true rfl) rfl lf_X12_214 hj42 ?_
      refine ao_iload_n 1 dX12_restart_89 rfl rfl ?_
      refine ao_aload_n 0 dX12_restart_90 rfl rfl ?_
      refine an_getI r0 12 26 (q := (RX12, TX12, 83)) dX12_restart_91 rfl hk10 (Nat.le_of_ble_eq_true rfl) rfl lf_X12_148 ?_
      obtain ⟨hk43, h⟩ := ao_some h
      obtain ⟨hb44, h⟩ := ao_some h
      refine an_iastore j42 dX12_restart_94 hk43 hb44 (fun M45 hM45 => ?_)
      replace h := ao_letD h hM45
      refine ao_aload_n 0 dX12_restart_95 rfl rfl ?_
      obtain ⟨j46, hj46, h⟩ := ao_bind h
      refine an_getR r0 12 37 (q := (RX12, TX12, 83)) dX12_restart_96 rfl hk10 (Nat.le_of_ble_eq_true rfl) rfl lf_X12_211 hj46 ?_
      refine ao_iload_n 1 dX12_restart_99 rfl rfl ?_
      refine ao_dup2 dX12_restart_100 rfl rfl ?_
      obtain ⟨hk47, h⟩ := ao_some h
      obtain ⟨hb48, h⟩ := ao_some h
      refine an_iaload j46 dX12_restart_101 hk47 hb48 ?_
      refine ao_iconst (v := 1) dX12_restart_102 (by decide) ?_
      refine ao_iadd dX12_restart_103 ?_
      refine an_iastore j46 dX12_restart_104 hk47 hb48 (fun M49 hM49 => ?_)
      replace h := ao_letD h hM49
      cases h
      exact ao_return dX12_restart_105 rfl ⟨rfl, rfl⟩
theorem me_X12_restart (n : Nat) (r0 : Nat) (x1 : Int32) (x2 : Int32) (M : ao_M) (ρ : ao_H) {y : ao_S} (h : gX12_restart n r0 x1 x2 M ρ = some y) : ao_le ρ y.2 := (mX12_restart n).1 r0 x1 x2 M ρ y h
set_option maxRecDepth 100000 in
set_option maxHeartbeats 4000000 in
theorem aX12_restart {Γ : ao_C} (d : Nat) (hd : 3 ≤ d) (n : Nat) (r0 : Nat) (x1 : Int32) (x2 : Int32) (M : ao_M) (ρ : ao_H) {y : ao_S} (h : gX12_restart n r0 x1 x2 M ρ = some y) : ao_A Γ uX12_restart d (ao_dc ρ y.2) (ao_ds ρ y.2) [.ref (Γ.2.2.2 + r0), .int x1, .int x2] (M, ρ) (ao_QV y) := by
  refine ao_of (by decide) (ao_cat1 (Nat.le_of_ble_eq_true rfl)) (Nat.le_of_ble_eq_true rfl) ?_
  show ao_W Γ uX12_restart (ao_rm d (ao_dc ρ y.2) (ao_ds ρ y.2)) (ao_Q Γ (ao_QV y) (ao_dc ρ y.2) (ao_ds ρ y.2)) (ao_dc ρ y.2) (ao_ds ρ y.2) 0 [some (.ref (Γ.2.2.2 + r0)), some (.int x1), some (.int x2), none] [] (M, ρ)
  exact (wX12_restart d hd _ _ n).1 r0 x1 x2 M ρ y h

abbrev uX12_isWrong : ao_Mi := (yX12_isWrong, cX12_isWrong, 5, (some .boolean), [])
def fX12_isWrong : Nat → Nat → Nat → Int32 → Int32 → Int32 → Int32 →  ao_M → ao_H → Option (Int32 × ao_M)
  | 0, _, _, _, _, _, _, _, _ => none
  | n + 1, pc, r0, x1, x2, x3, x4, M, ρ =>
    if pc = 0 then
      if ρ.2.1 r0 = 22 then
      (gX12_cell r0 x1 x2 x3 M ρ).bind fun p2 =>
      ao_let p2.1 fun v3 =>
      (ρ.1 r0 55).bind fun j4 =>
      if ρ.2.1 j4 = 2 then
      if ¬ (v3 < 0 ∨ ρ.2.2.1 j4 ≤ v3.toNatClampNeg) then
      if (p2.2 j4 v3.toNatClampNeg) = 0 then
        some ((0 : Int32), p2.2)
      else
        ao_let (p2.2 r0 27) fun v8 =>
        if v8 = (0 : Int32) then
          fX12_isWrong n 56 r0 x1 x2 x3 v3 p2.2 ρ
        else
          if v8 = (1 : Int32) then
            (ρ.1 r0 17).bind fun j11 =>
            if ρ.2.1 j11 = 0 then
            if ¬ (x3 < 0 ∨ ρ.2.2.1 j11 ≤ x3.toNatClampNeg) then
            (ρ.1 r0 57).bind fun j14 =>
            if ρ.2.1 j14 = 0 then
            if ¬ (v3 < 0 ∨ ρ.2.2.1 j14 ≤ v3.toNatClampNeg) then
            if (p2.2 j11 x3.toNatClampNeg) = (p2.2 j14 v3.toNatClampNeg) then
              some ((0 : Int32), p2.2)
            else
              some ((1 : Int32), p2.2)
            else none
            else none
            else none
            else none
          else
            if v8 = (2 : Int32) then
              fX12_isWrong n 56 r0 x1 x2 x3 v3 p2.2 ρ
            else
              if v8 = (3 : Int32) then
                (ρ.1 r0 19).bind fun j20 =>
                if ρ.2.1 j20 = 0 then
                if ¬ (x3 < 0 ∨ ρ.2.2.1 j20 ≤ x3.toNatClampNeg) then
                if (p2.2 j20 x3.toNatClampNeg) < 0 then
                  fX12_isWrong n 118 r0 x1 x2 x3 v3 p2.2 ρ
                else
                  if (p2.2 j20 x3.toNatClampNeg) = x1 then
                    fX12_isWrong n 118 r0 x1 x2 x3 v3 p2.2 ρ
                  else
                    fX12_isWrong n 134 r0 x1 x2 x3 v3 p2.2 ρ
                else none
                else none
              else
                some ((0 : Int32), p2.2)
      else none
      else none
      else none
    else if pc = 56 then
      if ρ.2.1 r0 = 22 then
      (ρ.1 r0 18).bind fun j26 =>
      if ρ.2.1 j26 = 0 then
      if ¬ (x3 < 0 ∨ ρ.2.2.1 j26 ≤ x3.toNatClampNeg) then
      (ρ.1 r0 38).bind fun j29 =>
      if ρ.2.1 j29 = 0 then
      if ¬ (x1 < 0 ∨ ρ.2.2.1 j29 ≤ x1.toNatClampNeg) then
      if (M j26 x3.toNatClampNeg) ≤ (M j29 x1.toNatClampNeg) then
        some ((0 : Int32), M)
      else
        some ((1 : Int32), M)
      else none
      else none
      else none
      else none
      else none
    else if pc = 118 then
      if ρ.2.1 r0 = 22 then
      (ρ.1 r0 18).bind fun j34 =>
      if ρ.2.1 j34 = 0 then
      if ¬ (x3 < 0 ∨ ρ.2.2.1 j34 ≤ x3.toNatClampNeg) then
      (ρ.1 r0 58).bind fun j37 =>
      if ρ.2.1 j37 = 0 then
      if ¬ (x4 < 0 ∨ ρ.2.2.1 j37 ≤ x4.toNatClampNeg) then
      if (M j34 x3.toNatClampNeg) = (M j37 x4.toNatClampNeg) then
        some ((0 : Int32), M)
      else
        fX12_isWrong n 134 r0 x1 x2 x3 x4 M ρ
      else none
      else none
      else none
      else none
      else none
    else if pc = 134 then
      some ((1 : Int32), M)
    else none
def gX12_isWrong (n : Nat) (r0 : Nat) (x1 : Int32) (x2 : Int32) (x3 : Int32) (M : ao_M) (ρ : ao_H) : Option (Int32 × ao_M) := fX12_isWrong n 0 r0 x1 x2 x3 0 M ρ
set_option maxRecDepth 100000 in
set_option maxHeartbeats 4000000 in
theorem wX12_isWrong {Γ : ao_C} {ρ : ao_H} (d : Nat) (hd : 1 ≤ d) : ∀ n : Nat, (∀ (r0 : Nat) (x1 : Int32) (x2 : Int32) (x3 : Int32) (M : ao_M) (y : Int32 × ao_M), fX12_isWrong n 0 r0 x1 x2 x3 0 M ρ = some y → ao_W Γ uX12_isWrong (ao_rm d 0 0) (ao_Q Γ (ao_PI ρ y) 0 0) 0 0 0 [some (.ref (Γ.2.2.2 + r0)), some (.int x1), some (.int x2), some (.int x3), none] [] (M, ρ)) ∧ (∀ (r0 : Nat) (x1 : Int32) (x2 : Int32) (x3 : Int32) (x4 : Int32) (M : ao_M) (y : Int32 × ao_M), fX12_isWrong n 56 r0 x1 x2 x3 x4 M ρ = some y → ao_W Γ uX12_isWrong (ao_rm d 0 0) (ao_Q Γ (ao_PI ρ y) 0 0) 0 0 56 [some (.ref (Γ.2.2.2 + r0)), some (.int x1), some (.int x2), some (.int x3), some (.int x4)] [] (M, ρ)) ∧ (∀ (r0 : Nat) (x1 : Int32) (x2 : Int32) (x3 : Int32) (x4 : Int32) (M : ao_M) (y : Int32 × ao_M), fX12_isWrong n 118 r0 x1 x2 x3 x4 M ρ = some y → ao_W Γ uX12_isWrong (ao_rm d 0 0) (ao_Q Γ (ao_PI ρ y) 0 0) 0 0 118 [some (.ref (Γ.2.2.2 + r0)), some (.int x1), some (.int x2), some (.int x3), some (.int x4)] [] (M, ρ)) ∧ (∀ (r0 : Nat) (x1 : Int32) (x2 : Int32) (x3 : Int32) (x4 : Int32) (M : ao_M) (y : Int32 × ao_M), fX12_isWrong n 134 r0 x1 x2 x3 x4 M ρ = some y → ao_W Γ uX12_isWrong (ao_rm d 0 0) (ao_Q Γ (ao_PI ρ y) 0 0) 0 0 134 [some (.ref (Γ.2.2.2 + r0)), some (.int x1), some (.int x2), some (.int x3), some (.int x4)] [] (M, ρ)) := by
  intro n
  induction n with
  | zero => exact ⟨fun _ _ _ _ _ _ h => ao_no h, fun _ _ _ _ _ _ _ h => ao_no h, fun _ _ _ _ _ _ _ h => ao_no h, fun _ _ _ _ _ _ _ h => ao_no h⟩
  | succ n ih =>
    refine ⟨?_, ?_, ?_, ?_⟩
    · intro r0 x1 x2 x3 M y h
      replace h := ao_ifT h rfl
      refine ao_aload_n 0 dX12_isWrong_0 rfl rfl ?_
      refine ao_iload_n 1 dX12_isWrong_1 rfl rfl ?_
      refine ao_iload_n 2 dX12_isWrong_2 rfl rfl ?_
      refine ao_iload_n 3 dX12_isWrong_3 rfl rfl ?_
      obtain ⟨hk1, h⟩ := ao_some h
      obtain ⟨p2, hp2, h⟩ := ao_bind h
      refine an_callVi r0 12 (q := (RX12, TX12, 83)) [.int x1, .int x2, .int x3] (aX12_cell (d - 1) (by omega) r0 x1 x2 x3 M ρ hp2) dX12_isWrong_4 lc_X12_357 li_X12_cell ls_X12_cell rfl hk1 rfl rfl (Nat.le_of_ble_eq_true rfl) (ao_hR (by omega) (by decide)) ?_
      refine an_topi (fun v3 hv3 => ?_)
      replace h := ao_letD h hv3
      refine ao_istore 4 (lo' := [some (.ref (Γ.2.2.2 + r0)), some (.int x1), some (.int x2), some (.int x3), some (.int v3)]) dX12_isWrong_7 (Nat.le_of_ble_eq_true rfl) rfl ?_
      refine ao_aload_n 0 dX12_isWrong_9 rfl rfl ?_
      obtain ⟨j4, hj4, h⟩ := ao_bind h
      refine an_getR r0 12 55 (q := (RX12, TX12, 83)) dX12_isWrong_10 rfl hk1 (Nat.le_of_ble_eq_true rfl) rfl lf_X12_266 hj4 ?_
      refine ao_iload 4 dX12_isWrong_13 rfl ?_
      obtain ⟨hk5, h⟩ := ao_some h
      obtain ⟨hb6, h⟩ := ao_some h
      refine an_zaload j4 dX12_isWrong_15 hk5 hb6 ?_
      refine ao_if_ne 21 dX12_isWrong_16 (by decide) (fun c7 => ?_) (fun c7 => ?_)
      · replace h := ao_ifF h c7
        refine ao_aload_n 0 dX12_isWrong_21 rfl rfl ?_
        refine an_getI r0 12 27 (q := (RX12, TX12, 83)) dX12_isWrong_22 rfl hk1 (Nat.le_of_ble_eq_true rfl) rfl lf_X12_332 ?_
        refine an_topi (fun v8 hv8 => ?_)
        replace h := ao_letD h hv8
        by_cases c9 : v8 = (0 : Int32)
        · replace h := ao_ifT h c9
          refine ao_tableIn 56 dX12_isWrong_25 (by rw [c9]; decide) (by rw [c9]; decide) (by rw [c9]; rfl) (by decide) ?_
          exact ih.2.1 r0 x1 x2 x3 v3 p2.2 _ h
        · replace h := ao_ifF h c9
          by_cases c10 : v8 = (1 : Int32)
          · replace h := ao_ifT h c10
            refine ao_tableIn 77 dX12_isWrong_25 (by rw [c10]; decide) (by rw [c10]; decide) (by rw [c10]; rfl) (by decide) ?_
            refine ao_aload_n 0 dX12_isWrong_77 rfl rfl ?_
            obtain ⟨j11, hj11, h⟩ := ao_bind h
            refine an_getR r0 12 17 (q := (RX12, TX12, 83)) dX12_isWrong_78 rfl hk1 (Nat.le_of_ble_eq_true rfl) rfl lf_X12_151 hj11 ?_
            refine ao_iload_n 3 dX12_isWrong_81 rfl rfl ?_
            obtain ⟨hk12, h⟩ := ao_some h
            obtain ⟨hb13, h⟩ := ao_some h
            refine an_iaload j11 dX12_isWrong_82 hk12 hb13 ?_
            refine ao_aload_n 0 dX12_isWrong_83 rfl rfl ?_
            obtain ⟨j14, hj14, h⟩ := ao_bind h
            refine an_getR r0 12 57 (q := (RX12, TX12, 83)) dX12_isWrong_84 rfl hk1 (Nat.le_of_ble_eq_true rfl) rfl lf_X12_272 hj14 ?_
            refine ao_iload 4 dX12_isWrong_87 rfl ?_
            obtain ⟨hk15, h⟩ := ao_some h
            obtain ⟨hb16, h⟩ := ao_some h
            refine an_iaload j14 dX12_isWrong_89 hk15 hb16 ?_
            refine ao_icmp_eq 97 dX12_isWrong_90 (by decide) (fun c17 => ?_) (fun c17 => ?_)
            · replace h := ao_ifT h c17
              refine ao_iconst (v := 0) dX12_isWrong_97 (by decide) ?_
              cases h
              exact ao_ireturn dX12_isWrong_98 rfl rfl ⟨rfl, rfl⟩
            · replace h := ao_ifF h c17
              refine ao_iconst (v := 1) dX12_isWrong_93 (by decide) ?_
              refine ao_goto 98 dX12_isWrong_94 (by decide) ?_
              cases h
              exact ao_ireturn dX12_isWrong_98 rfl rfl ⟨rfl, rfl⟩
          · replace h := ao_ifF h c10
            by_cases c18 : v8 = (2 : Int32)
            · replace h := ao_ifT h c18
              refine ao_tableIn 56 dX12_isWrong_25 (by rw [c18]; decide) (by rw [c18]; decide) (by rw [c18]; rfl) (by decide) ?_
              exact ih.2.1 r0 x1 x2 x3 v3 p2.2 _ h
            · replace h := ao_ifF h c18
              by_cases c19 : v8 = (3 : Int32)
              · replace h := ao_ifT h c19
                refine ao_tableIn 99 dX12_isWrong_25 (by rw [c19]; decide) (by rw [c19]; decide) (by rw [c19]; rfl) (by decide) ?_
                refine ao_aload_n 0 dX12_isWrong_99 rfl rfl ?_
                obtain ⟨j20, hj20, h⟩ := ao_bind h
                refine an_getR r0 12 19 (q := (RX12, TX12, 83)) dX12_isWrong_100 rfl hk1 (Nat.le_of_ble_eq_true rfl) rfl lf_X12_177 hj20 ?_
                refine ao_iload_n 3 dX12_isWrong_103 rfl rfl ?_
                obtain ⟨hk21, h⟩ := ao_some h
                obtain ⟨hb22, h⟩ := ao_some h
                refine an_iaload j20 dX12_isWrong_104 hk21 hb22 ?_
                refine ao_if_lt 118 dX12_isWrong_105 (by decide) (fun c23 => ?_) (fun c23 => ?_)
                · replace h := ao_ifT h c23
                  exact ih.2.2.1 r0 x1 x2 x3 v3 p2.2 _ h
                · replace h := ao_ifF h c23
                  refine ao_aload_n 0 dX12_isWrong_108 rfl rfl ?_
                  refine an_getR r0 12 19 (q := (RX12, TX12, 83)) dX12_isWrong_109 rfl hk1 (Nat.le_of_ble_eq_true rfl) rfl lf_X12_177 hj20 ?_
                  refine ao_iload_n 3 dX12_isWrong_112 rfl rfl ?_
                  refine an_iaload j20 dX12_isWrong_113 hk21 hb22 ?_
                  refine ao_iload_n 1 dX12_isWrong_114 rfl rfl ?_
                  refine ao_icmp_ne 134 dX12_isWrong_115 (by decide) (fun c24 => ?_) (fun c24 => ?_)
                  · replace h := ao_ifF h c24
                    exact ih.2.2.2 r0 x1 x2 x3 v3 p2.2 _ h
                  · replace h := ao_ifT h c24
                    exact ih.2.2.1 r0 x1 x2 x3 v3 p2.2 _ h
              · replace h := ao_ifF h c19
                refine ao_tableOut 140 dX12_isWrong_25 (by have nc9 := ao_ne (z := 0) c9 (by decide); have nc10 := ao_ne (z := 1) c10 (by decide); have nc18 := ao_ne (z := 2) c18 (by decide); have nc19 := ao_ne (z := 3) c19 (by decide); omega) (by decide) ?_
                refine ao_iconst (v := 0) dX12_isWrong_140 (by decide) ?_
                cases h
                exact ao_ireturn dX12_isWrong_141 rfl rfl ⟨rfl, rfl⟩
      · replace h := ao_ifT h c7
        refine ao_iconst (v := 0) dX12_isWrong_19 (by decide) ?_
        cases h
        exact ao_ireturn dX12_isWrong_20 rfl rfl ⟨rfl, rfl⟩
    · intro r0 x1 x2 x3 x4 M y h
      replace h := ao_ifF h (by decide)
      replace h := ao_ifT h rfl
      refine ao_aload_n 0 dX12_isWrong_56 rfl rfl ?_
      obtain ⟨hk25, h⟩ := ao_some h
      obtain ⟨j26, hj26, h⟩ := ao_bind h
      refine an_getR r0 12 18 (q := (RX12, TX12, 83)) dX12_isWrong_57 rfl hk25 (Nat.le_of_ble_eq_true rfl) rfl lf_X12_157 hj26 ?_
      refine ao_iload_n 3 dX12_isWrong_60 rfl rfl ?_
      obtain ⟨hk27, h⟩ := ao_some h
      obtain ⟨hb28, h⟩ := ao_some h
      refine an_iaload j26 dX12_isWrong_61 hk27 hb28 ?_
      refine ao_aload_n 0 dX12_isWrong_62 rfl rfl ?_
      obtain ⟨j29, hj29, h⟩ := ao_bind h
      refine an_getR r0 12 38 (q := (RX12, TX12, 83)) dX12_isWrong_63 rfl hk25 (Nat.le_of_ble_eq_true rfl) rfl lf_X12_214 hj29 ?_
      refine ao_iload_n 1 dX12_isWrong_66 rfl rfl ?_
      obtain ⟨hk30, h⟩ := ao_some h
      obtain ⟨hb31, h⟩ := ao_some h
      refine an_iaload j29 dX12_isWrong_67 hk30 hb31 ?_
      refine ao_icmp_le 75 dX12_isWrong_68 (by decide) (fun c32 => ?_) (fun c32 => ?_)
      · replace h := ao_ifT h c32
        refine ao_iconst (v := 0) dX12_isWrong_75 (by decide) ?_
        cases h
        exact ao_ireturn dX12_isWrong_76 rfl rfl ⟨rfl, rfl⟩
      · replace h := ao_ifF h c32
        refine ao_iconst (v := 1) dX12_isWrong_71 (by decide) ?_
        refine ao_goto 76 dX12_isWrong_72 (by decide) ?_
        cases h
        exact ao_ireturn dX12_isWrong_76 rfl rfl ⟨rfl, rfl⟩
    · intro r0 x1 x2 x3 x4 M y h
      replace h := ao_ifF h (by decide)
      replace h := ao_ifF h (by decide)
      replace h := ao_ifT h rfl
      refine ao_aload_n 0 dX12_isWrong_118 rfl rfl ?_
      obtain ⟨hk33, h⟩ := ao_some h
      obtain ⟨j34, hj34, h⟩ := ao_bind h
      refine an_getR r0 12 18 (q := (RX12, TX12, 83)) dX12_isWrong_119 rfl hk33 (Nat.le_of_ble_eq_true rfl) rfl lf_X12_157 hj34 ?_
      refine ao_iload_n 3 dX12_isWrong_122 rfl rfl ?_
      obtain ⟨hk35, h⟩ := ao_some h
      obtain ⟨hb36, h⟩ := ao_some h
      refine an_iaload j34 dX12_isWrong_123 hk35 hb36 ?_
      refine ao_aload_n 0 dX12_isWrong_124 rfl rfl ?_
      obtain ⟨j37, hj37, h⟩ := ao_bind h
      refine an_getR r0 12 58 (q := (RX12, TX12, 83)) dX12_isWrong_125 rfl hk33 (Nat.le_of_ble_eq_true rfl) rfl lf_X12_275 hj37 ?_
      refine ao_iload 4 dX12_isWrong_128 rfl ?_
      obtain ⟨hk38, h⟩ := ao_some h
      obtain ⟨hb39, h⟩ := ao_some h
      refine an_iaload j37 dX12_isWrong_130 hk38 hb39 ?_
      refine ao_icmp_eq 138 dX12_isWrong_131 (by decide) (fun c40 => ?_) (fun c40 => ?_)
      · replace h := ao_ifT h c40
        refine ao_iconst (v := 0) dX12_isWrong_138 (by decide) ?_
        cases h
        exact ao_ireturn dX12_isWrong_139 rfl rfl ⟨rfl, rfl⟩
      · replace h := ao_ifF h c40
        exact ih.2.2.2 r0 x1 x2 x3 x4 M _ h
    · intro r0 x1 x2 x3 x4 M y h
      replace h := ao_ifF h (by decide)
      replace h := ao_ifF h (by decide)
      replace h := ao_ifF h (by decide)
      replace h := ao_ifT h rfl
      refine ao_iconst (v := 1) dX12_isWrong_134 (by decide) ?_
      refine ao_goto 139 dX12_isWrong_135 (by decide) ?_
      cases h
      exact ao_ireturn dX12_isWrong_139 rfl rfl ⟨rfl, rfl⟩
set_option maxRecDepth 100000 in
set_option maxHeartbeats 4000000 in
theorem aX12_isWrong {Γ : ao_C} (d : Nat) (hd : 1 ≤ d) (n : Nat) (r0 : Nat) (x1 : Int32) (x2 : Int32) (x3 : Int32) (M : ao_M) (ρ : ao_H) {y : Int32 × ao_M} (h : gX12_isWrong n r0 x1 x2 x3 M ρ = some y) : ao_A Γ uX12_isWrong d 0 0 [.ref (Γ.2.2.2 + r0), .int x1, .int x2, .int x3] (M, ρ) (ao_PI ρ y) := by
  refine ao_of (by decide) (ao_cat1 (Nat.le_of_ble_eq_true rfl)) (Nat.le_of_ble_eq_true rfl) ?_
  show ao_W Γ uX12_isWrong (ao_rm d 0 0) (ao_Q Γ (ao_PI ρ y) 0 0) 0 0 0 [some (.ref (Γ.2.2.2 + r0)), some (.int x1), some (.int x2), some (.int x3), none] [] (M, ρ)
  exact (wX12_isWrong d hd n).1 r0 x1 x2 x3 M y h

abbrev uX12_wrongLevel : ao_Mi := (yX12_wrongLevel, cX12_wrongLevel, 4, (some .int), [])
def fX12_wrongLevel : Nat → Nat → Nat → Int32 → Int32 → Int32 →  ao_M → ao_H → Option (Int32 × ao_M)
  | 0, _, _, _, _, _, _, _ => none
  | n + 1, pc, r0, x1, x2, x3, M, ρ =>
    if pc = 0 then
      fX12_wrongLevel n 2 r0 x1 (0 : Int32) 0 M ρ
    else if pc = 2 then
      if ρ.2.1 r0 = 22 then
      (ρ.1 r0 34).bind fun j2 =>
      if ρ.2.1 j2 = 0 then
      if ¬ (x1 < 0 ∨ ρ.2.2.1 j2 ≤ x1.toNatClampNeg) then
      if (M j2 x1.toNatClampNeg) ≤ x2 then
        some ((-1 : Int32), M)
      else
        fX12_wrongLevel n 14 r0 x1 x2 (0 : Int32) M ρ
      else none
      else none
      else none
    else if pc = 14 then
      if (26 : Int32) ≤ x3 then
        ao_let (x2 + (1 : Int32)) fun v7 =>
        fX12_wrongLevel n 2 r0 x1 v7 0 M ρ
      else
        if ρ.2.1 r0 = 22 then
        (gX12_isWrong n r0 x1 x2 x3 M ρ).bind fun p9 =>
        if p9.1 = 0 then
          ao_let (x3 + (1 : Int32)) fun v11 =>
          fX12_wrongLevel n 14 r0 x1 x2 v11 p9.2 ρ
        else
          some (x2, p9.2)
        else none
    else none
def gX12_wrongLevel (n : Nat) (r0 : Nat) (x1 : Int32) (M : ao_M) (ρ : ao_H) : Option (Int32 × ao_M) := fX12_wrongLevel n 0 r0 x1 0 0 M ρ
set_option maxRecDepth 100000 in
set_option maxHeartbeats 4000000 in
theorem wX12_wrongLevel {Γ : ao_C} {ρ : ao_H} (d : Nat) (hd : 2 ≤ d) : ∀ n : Nat, (∀ (r0 : Nat) (x1 : Int32) (M : ao_M) (y : Int32 × ao_M), fX12_wrongLevel n 0 r0 x1 0 0 M ρ = some y → ao_W Γ uX12_wrongLevel (ao_rm d 0 0) (ao_Q Γ (ao_PI ρ y) 0 0) 0 0 0 [some (.ref (Γ.2.2.2 + r0)), some (.int x1), none, none] [] (M, ρ)) ∧ (∀ (r0 : Nat) (x1 : Int32) (x2 : Int32) (M : ao_M) (y : Int32 × ao_M), fX12_wrongLevel n 2 r0 x1 x2 0 M ρ = some y → ao_W Γ uX12_wrongLevel (ao_rm d 0 0) (ao_Q Γ (ao_PI ρ y) 0 0) 0 0 2 [some (.ref (Γ.2.2.2 + r0)), some (.int x1), some (.int x2), none] [] (M, ρ)) ∧ (∀ (r0 : Nat) (x1 : Int32) (x2 : Int32) (x3 : Int32) (M : ao_M) (y : Int32 × ao_M), fX12_wrongLevel n 14 r0 x1 x2 x3 M ρ = some y → ao_W Γ uX12_wrongLevel (ao_rm d 0 0) (ao_Q Γ (ao_PI ρ y) 0 0) 0 0 14 [some (.ref (Γ.2.2.2 + r0)), some (.int x1), some (.int x2), some (.int x3)] [] (M, ρ)) := by
  intro n
  induction n with
  | zero => exact ⟨fun _ _ _ _ h => ao_no h, fun _ _ _ _ _ h => ao_no h, fun _ _ _ _ _ _ h => ao_no h⟩
  | succ n ih =>
    refine ⟨?_, ?_, ?_⟩
    · intro r0 x1 M y h
      replace h := ao_ifT h rfl
      refine ao_iconst (v := 0) dX12_wrongLevel_0 (by decide) ?_
      refine ao_istore_n 2 (lo' := [some (.ref (Γ.2.2.2 + r0)), some (.int x1), some (.int (0 : Int32)), none]) dX12_wrongLevel_1 rfl (Nat.le_of_ble_eq_true rfl) rfl ?_
      exact ih.2.1 r0 x1 (0 : Int32) M _ h
    · intro r0 x1 x2 M y h
      replace h := ao_ifF h (by decide)
      replace h := ao_ifT h rfl
      refine ao_iload_n 2 dX12_wrongLevel_2 rfl rfl ?_
      refine ao_aload_n 0 dX12_wrongLevel_3 rfl rfl ?_
      obtain ⟨hk1, h⟩ := ao_some h
      obtain ⟨j2, hj2, h⟩ := ao_bind h
      refine an_getR r0 12 34 (q := (RX12, TX12, 83)) dX12_wrongLevel_4 rfl hk1 (Nat.le_of_ble_eq_true rfl) rfl lf_X12_202 hj2 ?_
      refine ao_iload_n 1 dX12_wrongLevel_7 rfl rfl ?_
      obtain ⟨hk3, h⟩ := ao_some h
      obtain ⟨hb4, h⟩ := ao_some h
      refine an_iaload j2 dX12_wrongLevel_8 hk3 hb4 ?_
      refine ao_icmp_ge 44 dX12_wrongLevel_9 (by decide) (fun c5 => ?_) (fun c5 => ?_)
      · replace h := ao_ifT h c5
        refine ao_iconst (v := (-1)) dX12_wrongLevel_44 (by decide) ?_
        cases h
        exact ao_ireturn dX12_wrongLevel_45 rfl rfl ⟨rfl, rfl⟩
      · replace h := ao_ifF h c5
        refine ao_iconst (v := 0) dX12_wrongLevel_12 (by decide) ?_
        refine ao_istore_n 3 (lo' := [some (.ref (Γ.2.2.2 + r0)), some (.int x1), some (.int x2), some (.int (0 : Int32))]) dX12_wrongLevel_13 rfl (Nat.le_of_ble_eq_true rfl) rfl ?_
        exact ih.2.2 r0 x1 x2 (0 : Int32) M _ h
    · intro r0 x1 x2 x3 M y h
      replace h := ao_ifF h (by decide)
      replace h := ao_ifF h (by decide)
      replace h := ao_ifT h rfl
      refine ao_iload_n 3 dX12_wrongLevel_14 rfl rfl ?_
      refine ao_bipush (v := 26) dX12_wrongLevel_15 (by decide) ?_
      refine ao_icmp_ge 38 dX12_wrongLevel_17 (by decide) (fun c6 => ?_) (fun c6 => ?_)
      · replace h := ao_ifT h c6
        obtain ⟨v7, hv7⟩ : ∃ z : Int32, z = x2 + (1 : Int32) := ⟨_, rfl⟩
        replace h := ao_letD h hv7
        refine ao_iinc 2 (v := v7) (lo' := [some (.ref (Γ.2.2.2 + r0)), some (.int x1), some (.int v7), some (.int x3)]) dX12_wrongLevel_38 rfl (by rw [hv7]; rfl) (Nat.le_of_ble_eq_true rfl) rfl ?_
        refine ao_goto 2 dX12_wrongLevel_41 (by decide) ?_
        refine ao_loForget (lo' := [some (.ref (Γ.2.2.2 + r0)), some (.int x1), some (.int v7), none]) (ao_fgS (ao_fgS (ao_fgS (ao_fgN ao_fgZ)))) ?_
        exact ih.2.1 r0 x1 v7 M _ h
      · replace h := ao_ifF h c6
        refine ao_aload_n 0 dX12_wrongLevel_20 rfl rfl ?_
        refine ao_iload_n 1 dX12_wrongLevel_21 rfl rfl ?_
        refine ao_iload_n 2 dX12_wrongLevel_22 rfl rfl ?_
        refine ao_iload_n 3 dX12_wrongLevel_23 rfl rfl ?_
        obtain ⟨hk8, h⟩ := ao_some h
        obtain ⟨p9, hp9, h⟩ := ao_bind h
        refine an_callVi r0 12 (q := (RX12, TX12, 83)) [.int x1, .int x2, .int x3] (aX12_isWrong (d - 1) (by omega) _ r0 x1 x2 x3 M ρ hp9) dX12_wrongLevel_24 lc_X12_389 li_X12_isWrong ls_X12_isWrong rfl hk8 rfl rfl (Nat.le_of_ble_eq_true rfl) (ao_hR (by omega) (by decide)) ?_
        refine ao_if_eq 32 dX12_wrongLevel_27 (by decide) (fun c10 => ?_) (fun c10 => ?_)
        · replace h := ao_ifT h c10
          obtain ⟨v11, hv11⟩ : ∃ z : Int32, z = x3 + (1 : Int32) := ⟨_, rfl⟩
          replace h := ao_letD h hv11
          refine ao_iinc 3 (v := v11) (lo' := [some (.ref (Γ.2.2.2 + r0)), some (.int x1), some (.int x2), some (.int v11)]) dX12_wrongLevel_32 rfl (by rw [hv11]; rfl) (Nat.le_of_ble_eq_true rfl) rfl ?_
          refine ao_goto 14 dX12_wrongLevel_35 (by decide) ?_
          exact ih.2.2 r0 x1 x2 v11 p9.2 _ h
        · replace h := ao_ifF h c10
          refine ao_iload_n 2 dX12_wrongLevel_30 rfl rfl ?_
          cases h
          exact ao_ireturn dX12_wrongLevel_31 rfl rfl ⟨rfl, rfl⟩
set_option maxRecDepth 100000 in
set_option maxHeartbeats 4000000 in
theorem aX12_wrongLevel {Γ : ao_C} (d : Nat) (hd : 2 ≤ d) (n : Nat) (r0 : Nat) (x1 : Int32) (M : ao_M) (ρ : ao_H) {y : Int32 × ao_M} (h : gX12_wrongLevel n r0 x1 M ρ = some y) : ao_A Γ uX12_wrongLevel d 0 0 [.ref (Γ.2.2.2 + r0), .int x1] (M, ρ) (ao_PI ρ y) := by
  refine ao_of (by decide) (ao_cat1 (Nat.le_of_ble_eq_true rfl)) (Nat.le_of_ble_eq_true rfl) ?_
  show ao_W Γ uX12_wrongLevel (ao_rm d 0 0) (ao_Q Γ (ao_PI ρ y) 0 0) 0 0 0 [some (.ref (Γ.2.2.2 + r0)), some (.int x1), none, none] [] (M, ρ)
  exact (wX12_wrongLevel d hd n).1 r0 x1 M y h

abbrev uX12_conflict : ao_Mi := (yX12_conflict, cX12_conflict, 3, none, [])
def fX12_conflict : Nat → Nat → Nat → Int32 → Int32 → Int32 → Int32 → Nat →  ao_M → ao_H → Option (ao_S)
  | 0, _, _, _, _, _, _, _, _, _ => none
  | n + 1, pc, r0, x1, x2, s0, s1, q2, M, ρ =>
    if pc = 0 then
      if ρ.2.1 r0 = 22 then
      (gX12_wrongLevel n r0 x1 M ρ).bind fun p2 =>
      ao_let p2.1 fun v3 =>
      if 0 ≤ v3 then
        fX12_conflict n 24 r0 x1 v3 v3 x1 r0 p2.2 ρ
      else
        (ρ.1 r0 34).bind fun j5 =>
        if ρ.2.1 j5 = 0 then
        if ¬ (x1 < 0 ∨ ρ.2.2.1 j5 ≤ x1.toNatClampNeg) then
        fX12_conflict n 24 r0 x1 v3 ((p2.2 j5 x1.toNatClampNeg) - (1 : Int32)) x1 r0 p2.2 ρ
        else none
        else none
      else none
    else if pc = 24 then
      if ρ.2.1 q2 = 22 then
      (gX12_restart n q2 s1 s0 M ρ).bind fun p9 =>
      fX12_conflict n 27 r0 x1 x2 0 0 0 p9.1 p9.2
      else none
    else if pc = 27 then
      some (M, ρ)
    else none
def gX12_conflict (n : Nat) (r0 : Nat) (x1 : Int32) (M : ao_M) (ρ : ao_H) : Option (ao_S) := fX12_conflict n 0 r0 x1 0 0 0 0 M ρ
set_option maxRecDepth 100000 in
set_option maxHeartbeats 4000000 in
theorem mX12_conflict : ∀ n : Nat, (∀ (r0 : Nat) (x1 : Int32) (M : ao_M) (ρ : ao_H) (y : ao_S), fX12_conflict n 0 r0 x1 0 0 0 0 M ρ = some y → ao_le ρ y.2) ∧ (∀ (r0 : Nat) (x1 : Int32) (x2 : Int32) (s0 : Int32) (s1 : Int32) (q2 : Nat) (M : ao_M) (ρ : ao_H) (y : ao_S), fX12_conflict n 24 r0 x1 x2 s0 s1 q2 M ρ = some y → ao_le ρ y.2) ∧ (∀ (r0 : Nat) (x1 : Int32) (x2 : Int32) (M : ao_M) (ρ : ao_H) (y : ao_S), fX12_conflict n 27 r0 x1 x2 0 0 0 M ρ = some y → ao_le ρ y.2) := by
  intro n
  induction n with
  | zero => exact ⟨fun _ _ _ _ _ h => ao_no h, fun _ _ _ _ _ _ _ _ _ h => ao_no h, fun _ _ _ _ _ _ h => ao_no h⟩
  | succ n ih =>
    refine ⟨?_, ?_, ?_⟩
    · intro r0 x1 M ρ y h
      replace h := ao_ifT h rfl
      obtain ⟨-, h⟩ := ao_some h
      obtain ⟨p2, hp2, h⟩ := ao_bind h
      replace h := ao_letD h rfl
      generalize p2.1 = v3 at h
      rcases ao_ifC h with h | h
      · exact ih.2.1 r0 x1 v3 v3 x1 r0 p2.2 ρ _ h
      · obtain ⟨j5, hj5, h⟩ := ao_bind h
        obtain ⟨-, h⟩ := ao_some h
        obtain ⟨-, h⟩ := ao_some h
        exact ih.2.1 r0 x1 v3 ((p2.2 j5 x1.toNatClampNeg) - (1 : Int32)) x1 r0 p2.2 ρ _ h
    · intro r0 x1 x2 s0 s1 q2 M ρ y h
      replace h := ao_ifF h (by decide)
      replace h := ao_ifT h rfl
      obtain ⟨-, h⟩ := ao_some h
      obtain ⟨p9, hp9, h⟩ := ao_bind h
      exact ao_le_tr (me_X12_restart n q2 s1 s0 M ρ hp9) (ih.2.2 r0 x1 x2 p9.1 p9.2 _ h)
    · intro r0 x1 x2 M ρ y h
      replace h := ao_ifF h (by decide)
      replace h := ao_ifF h (by decide)
      replace h := ao_ifT h rfl
      cases h
      exact ao_le_rf _
set_option maxRecDepth 100000 in
set_option maxHeartbeats 4000000 in
theorem wX12_conflict {Γ : ao_C} (d : Nat) (hd : 4 ≤ d) (MC MS : Nat) : ∀ n : Nat, (∀ (r0 : Nat) (x1 : Int32) (M : ao_M) (ρ : ao_H) (y : ao_S), fX12_conflict n 0 r0 x1 0 0 0 0 M ρ = some y → ao_W Γ uX12_conflict (ao_rm d MC MS) (ao_Q Γ (ao_QV y) MC MS) (ao_dc ρ y.2) (ao_ds ρ y.2) 0 [some (.ref (Γ.2.2.2 + r0)), some (.int x1), none] [] (M, ρ)) ∧ (∀ (r0 : Nat) (x1 : Int32) (x2 : Int32) (s0 : Int32) (s1 : Int32) (q2 : Nat) (M : ao_M) (ρ : ao_H) (y : ao_S), fX12_conflict n 24 r0 x1 x2 s0 s1 q2 M ρ = some y → ao_W Γ uX12_conflict (ao_rm d MC MS) (ao_Q Γ (ao_QV y) MC MS) (ao_dc ρ y.2) (ao_ds ρ y.2) 24 [some (.ref (Γ.2.2.2 + r0)), some (.int x1), some (.int x2)] [.int s0, .int s1, .ref (Γ.2.2.2 + q2)] (M, ρ)) ∧ (∀ (r0 : Nat) (x1 : Int32) (x2 : Int32) (M : ao_M) (ρ : ao_H) (y : ao_S), fX12_conflict n 27 r0 x1 x2 0 0 0 M ρ = some y → ao_W Γ uX12_conflict (ao_rm d MC MS) (ao_Q Γ (ao_QV y) MC MS) (ao_dc ρ y.2) (ao_ds ρ y.2) 27 [some (.ref (Γ.2.2.2 + r0)), some (.int x1), some (.int x2)] [] (M, ρ)) := by
  intro n
  induction n with
  | zero => exact ⟨fun _ _ _ _ _ h => ao_no h, fun _ _ _ _ _ _ _ _ _ h => ao_no h, fun _ _ _ _ _ _ h => ao_no h⟩
  | succ n ih =>
    refine ⟨?_, ?_, ?_⟩
    · intro r0 x1 M ρ y h
      replace h := ao_ifT h rfl
      refine ao_aload_n 0 dX12_conflict_0 rfl rfl ?_
      refine ao_iload_n 1 dX12_conflict_1 rfl rfl ?_
      obtain ⟨hk1, h⟩ := ao_some h
      obtain ⟨p2, hp2, h⟩ := ao_bind h
      refine an_callVi r0 12 (q := (RX12, TX12, 83)) [.int x1] (aX12_wrongLevel (d - 1) (by omega) _ r0 x1 M ρ hp2) dX12_conflict_2 lc_X12_393 li_X12_wrongLevel ls_X12_wrongLevel rfl hk1 rfl rfl (Nat.le_of_ble_eq_true rfl) (ao_hR (by omega) (by decide)) ?_
      refine an_topi (fun v3 hv3 => ?_)
      replace h := ao_letD h hv3
      refine ao_istore_n 2 (lo' := [some (.ref (Γ.2.2.2 + r0)), some (.int x1), some (.int v3)]) dX12_conflict_5 rfl (Nat.le_of_ble_eq_true rfl) rfl ?_
      refine ao_aload_n 0 dX12_conflict_6 rfl rfl ?_
      refine ao_iload_n 1 dX12_conflict_7 rfl rfl ?_
      refine ao_iload_n 2 dX12_conflict_8 rfl rfl ?_
      refine ao_if_ge 23 dX12_conflict_9 (by decide) (fun c4 => ?_) (fun c4 => ?_)
      · replace h := ao_ifT h c4
        refine ao_iload_n 2 dX12_conflict_23 rfl rfl ?_
        exact ih.2.1 r0 x1 v3 v3 x1 r0 p2.2 ρ _ h
      · replace h := ao_ifF h c4
        refine ao_aload_n 0 dX12_conflict_12 rfl rfl ?_
        obtain ⟨j5, hj5, h⟩ := ao_bind h
        refine an_getR r0 12 34 (q := (RX12, TX12, 83)) dX12_conflict_13 rfl hk1 (Nat.le_of_ble_eq_true rfl) rfl lf_X12_202 hj5 ?_
        refine ao_iload_n 1 dX12_conflict_16 rfl rfl ?_
        obtain ⟨hk6, h⟩ := ao_some h
        obtain ⟨hb7, h⟩ := ao_some h
        refine an_iaload j5 dX12_conflict_17 hk6 hb7 ?_
        refine ao_iconst (v := 1) dX12_conflict_18 (by decide) ?_
        refine ao_isub dX12_conflict_19 ?_
        refine ao_goto 24 dX12_conflict_20 (by decide) ?_
        exact ih.2.1 r0 x1 v3 ((p2.2 j5 x1.toNatClampNeg) - (1 : Int32)) x1 r0 p2.2 ρ _ h
    · intro r0 x1 x2 s0 s1 q2 M ρ y h
      replace h := ao_ifF h (by decide)
      replace h := ao_ifT h rfl
      obtain ⟨hk8, h⟩ := ao_some h
      obtain ⟨p9, hp9, h⟩ := ao_bind h
      refine ba_callVv q2 12 (q := (RX12, TX12, 83)) [.int s1, .int s0] (aX12_restart (d - 1) (by omega) n q2 s1 s0 M ρ hp9) dX12_conflict_24 lc_X12_396 li_X12_restart ls_X12_restart rfl hk8 rfl rfl (Nat.le_of_ble_eq_true rfl) (ao_hR (by omega) (by decide)) (ao_leC (me_X12_restart n q2 s1 s0 M ρ hp9) ((mX12_conflict n).2.2 r0 x1 x2 p9.1 p9.2 _ h)) (ao_leS (me_X12_restart n q2 s1 s0 M ρ hp9) ((mX12_conflict n).2.2 r0 x1 x2 p9.1 p9.2 _ h)) ?_
      exact ih.2.2 r0 x1 x2 p9.1 p9.2 _ h
    · intro r0 x1 x2 M ρ y h
      replace h := ao_ifF h (by decide)
      replace h := ao_ifF h (by decide)
      replace h := ao_ifT h rfl
      cases h
      exact ao_return dX12_conflict_27 rfl ⟨rfl, rfl⟩
theorem me_X12_conflict (n : Nat) (r0 : Nat) (x1 : Int32) (M : ao_M) (ρ : ao_H) {y : ao_S} (h : gX12_conflict n r0 x1 M ρ = some y) : ao_le ρ y.2 := (mX12_conflict n).1 r0 x1 M ρ y h
set_option maxRecDepth 100000 in
set_option maxHeartbeats 4000000 in
theorem aX12_conflict {Γ : ao_C} (d : Nat) (hd : 4 ≤ d) (n : Nat) (r0 : Nat) (x1 : Int32) (M : ao_M) (ρ : ao_H) {y : ao_S} (h : gX12_conflict n r0 x1 M ρ = some y) : ao_A Γ uX12_conflict d (ao_dc ρ y.2) (ao_ds ρ y.2) [.ref (Γ.2.2.2 + r0), .int x1] (M, ρ) (ao_QV y) := by
  refine ao_of (by decide) (ao_cat1 (Nat.le_of_ble_eq_true rfl)) (Nat.le_of_ble_eq_true rfl) ?_
  show ao_W Γ uX12_conflict (ao_rm d (ao_dc ρ y.2) (ao_ds ρ y.2)) (ao_Q Γ (ao_QV y) (ao_dc ρ y.2) (ao_ds ρ y.2)) (ao_dc ρ y.2) (ao_ds ρ y.2) 0 [some (.ref (Γ.2.2.2 + r0)), some (.int x1), none] [] (M, ρ)
  exact (wX12_conflict d hd _ _ n).1 r0 x1 M ρ y h

abbrev uX12_wins : ao_Mi := (yX12_wins, cX12_wins, 4, (some .boolean), [])
def fX12_wins : Nat → Nat → Nat → Int32 → Int32 → Int32 →  ao_M → ao_H → Option (Int32 × ao_S)
  | 0, _, _, _, _, _, _, _ => none
  | n + 1, pc, r0, x1, x2, x3, M, ρ =>
    if pc = 0 then
      if ρ.2.1 r0 = 22 then
      (ρ.1 r0 19).bind fun j2 =>
      if ρ.2.1 j2 = 0 then
      if ¬ (x2 < 0 ∨ ρ.2.2.1 j2 ≤ x2.toNatClampNeg) then
      ao_let (M j2 x2.toNatClampNeg) fun v5 =>
      if (M r0 27) = (3 : Int32) then
        if v5 < 0 then
          some ((1 : Int32), M, ρ)
        else
          if v5 = x1 then
            some ((1 : Int32), M, ρ)
          else
            (ρ.1 r0 41).bind fun j9 =>
            if ρ.2.1 j9 = 0 then
            if ¬ (v5 < 0 ∨ ρ.2.2.1 j9 ≤ v5.toNatClampNeg) then
            if ¬ (x1 < 0 ∨ ρ.2.2.1 j9 ≤ x1.toNatClampNeg) then
            if (M j9 v5.toNatClampNeg) ≤ (M j9 x1.toNatClampNeg) then
              (gX12_restart n r0 x1 (0 : Int32) M ρ).bind fun p14 =>
              fX12_wins n 55 r0 x1 x2 v5 p14.1 p14.2
            else
              (gX12_restart n r0 v5 (0 : Int32) M ρ).bind fun p15 =>
              fX12_wins n 47 r0 x1 x2 v5 p15.1 p15.2
            else none
            else none
            else none
      else
        some ((1 : Int32), M, ρ)
      else none
      else none
      else none
    else if pc = 47 then
      some ((1 : Int32), M, ρ)
    else if pc = 55 then
      some ((0 : Int32), M, ρ)
    else none
def gX12_wins (n : Nat) (r0 : Nat) (x1 : Int32) (x2 : Int32) (M : ao_M) (ρ : ao_H) : Option (Int32 × ao_S) := fX12_wins n 0 r0 x1 x2 0 M ρ
set_option maxRecDepth 100000 in
set_option maxHeartbeats 4000000 in
theorem mX12_wins : ∀ n : Nat, (∀ (r0 : Nat) (x1 : Int32) (x2 : Int32) (M : ao_M) (ρ : ao_H) (y : Int32 × ao_S), fX12_wins n 0 r0 x1 x2 0 M ρ = some y → ao_le ρ y.2.2) ∧ (∀ (r0 : Nat) (x1 : Int32) (x2 : Int32) (x3 : Int32) (M : ao_M) (ρ : ao_H) (y : Int32 × ao_S), fX12_wins n 47 r0 x1 x2 x3 M ρ = some y → ao_le ρ y.2.2) ∧ (∀ (r0 : Nat) (x1 : Int32) (x2 : Int32) (x3 : Int32) (M : ao_M) (ρ : ao_H) (y : Int32 × ao_S), fX12_wins n 55 r0 x1 x2 x3 M ρ = some y → ao_le ρ y.2.2) := by
  intro n
  induction n with
  | zero => exact ⟨fun _ _ _ _ _ _ h => ao_no h, fun _ _ _ _ _ _ _ h => ao_no h, fun _ _ _ _ _ _ _ h => ao_no h⟩
  | succ n ih =>
    refine ⟨?_, ?_, ?_⟩
    · intro r0 x1 x2 M ρ y h
      replace h := ao_ifT h rfl
      obtain ⟨-, h⟩ := ao_some h
      obtain ⟨j2, hj2, h⟩ := ao_bind h
      obtain ⟨-, h⟩ := ao_some h
      obtain ⟨-, h⟩ := ao_some h
      replace h := ao_letD h rfl
      generalize (M j2 x2.toNatClampNeg) = v5 at h
      rcases ao_ifC h with h | h
      · rcases ao_ifC h with h | h
        · cases h
          exact ao_le_rf _
        · rcases ao_ifC h with h | h
          · cases h
            exact ao_le_rf _
          · obtain ⟨j9, hj9, h⟩ := ao_bind h
            obtain ⟨-, h⟩ := ao_some h
            obtain ⟨-, h⟩ := ao_some h
            obtain ⟨-, h⟩ := ao_some h
            rcases ao_ifC h with h | h
            · obtain ⟨p14, hp14, h⟩ := ao_bind h
              exact ao_le_tr (me_X12_restart n r0 x1 (0 : Int32) M ρ hp14) (ih.2.2 r0 x1 x2 v5 p14.1 p14.2 _ h)
            · obtain ⟨p15, hp15, h⟩ := ao_bind h
              exact ao_le_tr (me_X12_restart n r0 v5 (0 : Int32) M ρ hp15) (ih.2.1 r0 x1 x2 v5 p15.1 p15.2 _ h)
      · cases h
        exact ao_le_rf _
    · intro r0 x1 x2 x3 M ρ y h
      replace h := ao_ifF h (by decide)
      replace h := ao_ifT h rfl
      cases h
      exact ao_le_rf _
    · intro r0 x1 x2 x3 M ρ y h
      replace h := ao_ifF h (by decide)
      replace h := ao_ifF h (by decide)
      replace h := ao_ifT h rfl
      cases h
      exact ao_le_rf _
set_option maxRecDepth 100000 in
set_option maxHeartbeats 4000000 in
theorem wX12_wins {Γ : ao_C} (d : Nat) (hd : 4 ≤ d) (MC MS : Nat) : ∀ n : Nat, (∀ (r0 : Nat) (x1 : Int32) (x2 : Int32) (M : ao_M) (ρ : ao_H) (y : Int32 × ao_S), fX12_wins n 0 r0 x1 x2 0 M ρ = some y → ao_W Γ uX12_wins (ao_rm d MC MS) (ao_Q Γ (ao_QI y) MC MS) (ao_dc ρ y.2.2) (ao_ds ρ y.2.2) 0 [some (.ref (Γ.2.2.2 + r0)), some (.int x1), some (.int x2), none] [] (M, ρ)) ∧ (∀ (r0 : Nat) (x1 : Int32) (x2 : Int32) (x3 : Int32) (M : ao_M) (ρ : ao_H) (y : Int32 × ao_S), fX12_wins n 47 r0 x1 x2 x3 M ρ = some y → ao_W Γ uX12_wins (ao_rm d MC MS) (ao_Q Γ (ao_QI y) MC MS) (ao_dc ρ y.2.2) (ao_ds ρ y.2.2) 47 [some (.ref (Γ.2.2.2 + r0)), some (.int x1), some (.int x2), some (.int x3)] [] (M, ρ)) ∧ (∀ (r0 : Nat) (x1 : Int32) (x2 : Int32) (x3 : Int32) (M : ao_M) (ρ : ao_H) (y : Int32 × ao_S), fX12_wins n 55 r0 x1 x2 x3 M ρ = some y → ao_W Γ uX12_wins (ao_rm d MC MS) (ao_Q Γ (ao_QI y) MC MS) (ao_dc ρ y.2.2) (ao_ds ρ y.2.2) 55 [some (.ref (Γ.2.2.2 + r0)), some (.int x1), some (.int x2), some (.int x3)] [] (M, ρ)) := by
  intro n
  induction n with
  | zero => exact ⟨fun _ _ _ _ _ _ h => ao_no h, fun _ _ _ _ _ _ _ h => ao_no h, fun _ _ _ _ _ _ _ h => ao_no h⟩
  | succ n ih =>
    refine ⟨?_, ?_, ?_⟩
    · intro r0 x1 x2 M ρ y h
      replace h := ao_ifT h rfl
      refine ao_aload_n 0 dX12_wins_0 rfl rfl ?_
      obtain ⟨hk1, h⟩ := ao_some h
      obtain ⟨j2, hj2, h⟩ := ao_bind h
      refine an_getR r0 12 19 (q := (RX12, TX12, 83)) dX12_wins_1 rfl hk1 (Nat.le_of_ble_eq_true rfl) rfl lf_X12_177 hj2 ?_
      refine ao_iload_n 2 dX12_wins_4 rfl rfl ?_
      obtain ⟨hk3, h⟩ := ao_some h
      obtain ⟨hb4, h⟩ := ao_some h
      refine an_iaload j2 dX12_wins_5 hk3 hb4 ?_
      refine an_topi (fun v5 hv5 => ?_)
      replace h := ao_letD h hv5
      refine ao_istore_n 3 (lo' := [some (.ref (Γ.2.2.2 + r0)), some (.int x1), some (.int x2), some (.int v5)]) dX12_wins_6 rfl (Nat.le_of_ble_eq_true rfl) rfl ?_
      refine ao_aload_n 0 dX12_wins_7 rfl rfl ?_
      refine an_getI r0 12 27 (q := (RX12, TX12, 83)) dX12_wins_8 rfl hk1 (Nat.le_of_ble_eq_true rfl) rfl lf_X12_332 ?_
      refine ao_iconst (v := 3) dX12_wins_11 (by decide) ?_
      refine ao_icmp_ne 24 dX12_wins_12 (by decide) (fun c6 => ?_) (fun c6 => ?_)
      · replace h := ao_ifF h c6
        refine ao_iconst (v := 1) dX12_wins_24 (by decide) ?_
        cases h
        exact ao_ireturn dX12_wins_25 rfl rfl ⟨rfl, rfl⟩
      · replace h := ao_ifT h c6
        refine ao_iload_n 3 dX12_wins_15 rfl rfl ?_
        refine ao_if_lt 24 dX12_wins_16 (by decide) (fun c7 => ?_) (fun c7 => ?_)
        · replace h := ao_ifT h c7
          refine ao_iconst (v := 1) dX12_wins_24 (by decide) ?_
          cases h
          exact ao_ireturn dX12_wins_25 rfl rfl ⟨rfl, rfl⟩
        · replace h := ao_ifF h c7
          refine ao_iload_n 3 dX12_wins_19 rfl rfl ?_
          refine ao_iload_n 1 dX12_wins_20 rfl rfl ?_
          refine ao_icmp_ne 26 dX12_wins_21 (by decide) (fun c8 => ?_) (fun c8 => ?_)
          · replace h := ao_ifF h c8
            refine ao_aload_n 0 dX12_wins_26 rfl rfl ?_
            obtain ⟨j9, hj9, h⟩ := ao_bind h
            refine an_getR r0 12 41 (q := (RX12, TX12, 83)) dX12_wins_27 rfl hk1 (Nat.le_of_ble_eq_true rfl) rfl lf_X12_223 hj9 ?_
            refine ao_iload_n 3 dX12_wins_30 rfl rfl ?_
            obtain ⟨hk10, h⟩ := ao_some h
            obtain ⟨hb11, h⟩ := ao_some h
            refine an_iaload j9 dX12_wins_31 hk10 hb11 ?_
            refine ao_aload_n 0 dX12_wins_32 rfl rfl ?_
            refine an_getR r0 12 41 (q := (RX12, TX12, 83)) dX12_wins_33 rfl hk1 (Nat.le_of_ble_eq_true rfl) rfl lf_X12_223 hj9 ?_
            refine ao_iload_n 1 dX12_wins_36 rfl rfl ?_
            obtain ⟨hb12, h⟩ := ao_some h
            refine an_iaload j9 dX12_wins_37 hk10 hb12 ?_
            refine ao_icmp_le 49 dX12_wins_38 (by decide) (fun c13 => ?_) (fun c13 => ?_)
            · replace h := ao_ifT h c13
              refine ao_aload_n 0 dX12_wins_49 rfl rfl ?_
              refine ao_iload_n 1 dX12_wins_50 rfl rfl ?_
              refine ao_iconst (v := 0) dX12_wins_51 (by decide) ?_
              obtain ⟨p14, hp14, h⟩ := ao_bind h
              refine ba_callVv r0 12 (q := (RX12, TX12, 83)) [.int x1, .int (0 : Int32)] (aX12_restart (d - 1) (by omega) n r0 x1 (0 : Int32) M ρ hp14) dX12_wins_52 lc_X12_396 li_X12_restart ls_X12_restart rfl hk1 rfl rfl (Nat.le_of_ble_eq_true rfl) (ao_hR (by omega) (by decide)) (ao_leC (me_X12_restart n r0 x1 (0 : Int32) M ρ hp14) ((mX12_wins n).2.2 r0 x1 x2 v5 p14.1 p14.2 _ h)) (ao_leS (me_X12_restart n r0 x1 (0 : Int32) M ρ hp14) ((mX12_wins n).2.2 r0 x1 x2 v5 p14.1 p14.2 _ h)) ?_
              exact ih.2.2 r0 x1 x2 v5 p14.1 p14.2 _ h
            · replace h := ao_ifF h c13
              refine ao_aload_n 0 dX12_wins_41 rfl rfl ?_
              refine ao_iload_n 3 dX12_wins_42 rfl rfl ?_
              refine ao_iconst (v := 0) dX12_wins_43 (by decide) ?_
              obtain ⟨p15, hp15, h⟩ := ao_bind h
              refine ba_callVv r0 12 (q := (RX12, TX12, 83)) [.int v5, .int (0 : Int32)] (aX12_restart (d - 1) (by omega) n r0 v5 (0 : Int32) M ρ hp15) dX12_wins_44 lc_X12_396 li_X12_restart ls_X12_restart rfl hk1 rfl rfl (Nat.le_of_ble_eq_true rfl) (ao_hR (by omega) (by decide)) (ao_leC (me_X12_restart n r0 v5 (0 : Int32) M ρ hp15) ((mX12_wins n).2.1 r0 x1 x2 v5 p15.1 p15.2 _ h)) (ao_leS (me_X12_restart n r0 v5 (0 : Int32) M ρ hp15) ((mX12_wins n).2.1 r0 x1 x2 v5 p15.1 p15.2 _ h)) ?_
              exact ih.2.1 r0 x1 x2 v5 p15.1 p15.2 _ h
          · replace h := ao_ifT h c8
            refine ao_iconst (v := 1) dX12_wins_24 (by decide) ?_
            cases h
            exact ao_ireturn dX12_wins_25 rfl rfl ⟨rfl, rfl⟩
    · intro r0 x1 x2 x3 M ρ y h
      replace h := ao_ifF h (by decide)
      replace h := ao_ifT h rfl
      refine ao_iconst (v := 1) dX12_wins_47 (by decide) ?_
      cases h
      exact ao_ireturn dX12_wins_48 rfl rfl ⟨rfl, rfl⟩
    · intro r0 x1 x2 x3 M ρ y h
      replace h := ao_ifF h (by decide)
      replace h := ao_ifF h (by decide)
      replace h := ao_ifT h rfl
      refine ao_iconst (v := 0) dX12_wins_55 (by decide) ?_
      cases h
      exact ao_ireturn dX12_wins_56 rfl rfl ⟨rfl, rfl⟩
theorem me_X12_wins (n : Nat) (r0 : Nat) (x1 : Int32) (x2 : Int32) (M : ao_M) (ρ : ao_H) {y : Int32 × ao_S} (h : gX12_wins n r0 x1 x2 M ρ = some y) : ao_le ρ y.2.2 := (mX12_wins n).1 r0 x1 x2 M ρ y h
set_option maxRecDepth 100000 in
set_option maxHeartbeats 4000000 in
theorem aX12_wins {Γ : ao_C} (d : Nat) (hd : 4 ≤ d) (n : Nat) (r0 : Nat) (x1 : Int32) (x2 : Int32) (M : ao_M) (ρ : ao_H) {y : Int32 × ao_S} (h : gX12_wins n r0 x1 x2 M ρ = some y) : ao_A Γ uX12_wins d (ao_dc ρ y.2.2) (ao_ds ρ y.2.2) [.ref (Γ.2.2.2 + r0), .int x1, .int x2] (M, ρ) (ao_QI y) := by
  refine ao_of (by decide) (ao_cat1 (Nat.le_of_ble_eq_true rfl)) (Nat.le_of_ble_eq_true rfl) ?_
  show ao_W Γ uX12_wins (ao_rm d (ao_dc ρ y.2.2) (ao_ds ρ y.2.2)) (ao_Q Γ (ao_QI y) (ao_dc ρ y.2.2) (ao_ds ρ y.2.2)) (ao_dc ρ y.2.2) (ao_ds ρ y.2.2) 0 [some (.ref (Γ.2.2.2 + r0)), some (.int x1), some (.int x2), none] [] (M, ρ)
  exact (wX12_wins d hd _ _ n).1 r0 x1 x2 M ρ y h

abbrev uX12_writtenLevel : ao_Mi := (yX12_writtenLevel, cX12_writtenLevel, 4, (some .int), [])
def fX12_writtenLevel : Nat → Nat → Nat → Int32 → Int32 → Int32 →  ao_M → ao_H → Option (Int32 × ao_M)
  | 0, _, _, _, _, _, _, _ => none
  | n + 1, pc, r0, x1, x2, x3, M, ρ =>
    if pc = 0 then
      if ρ.2.1 r0 = 22 then
      (ρ.1 r0 34).bind fun j2 =>
      if ρ.2.1 j2 = 0 then
      if ¬ (x1 < 0 ∨ ρ.2.2.1 j2 ≤ x1.toNatClampNeg) then
      ao_let ((M j2 x1.toNatClampNeg) - (1 : Int32)) fun v5 =>
      fX12_writtenLevel n 9 r0 x1 x2 v5 M ρ
      else none
      else none
      else none
    else if pc = 9 then
      if x3 < 0 then
        some ((-1 : Int32), M)
      else
        if ρ.2.1 r0 = 22 then
        (ρ.1 r0 56).bind fun j8 =>
        (gX12_cell r0 x1 x3 x2 M ρ).bind fun p9 =>
        if ρ.2.1 j8 = 2 then
        if ¬ (p9.1 < 0 ∨ ρ.2.2.1 j8 ≤ p9.1.toNatClampNeg) then
        if (p9.2 j8 p9.1.toNatClampNeg) = 0 then
          ao_let (x3 + (-1 : Int32)) fun v13 =>
          fX12_writtenLevel n 9 r0 x1 x2 v13 p9.2 ρ
        else
          some (x3, p9.2)
        else none
        else none
        else none
    else none
def gX12_writtenLevel (n : Nat) (r0 : Nat) (x1 : Int32) (x2 : Int32) (M : ao_M) (ρ : ao_H) : Option (Int32 × ao_M) := fX12_writtenLevel n 0 r0 x1 x2 0 M ρ
set_option maxRecDepth 100000 in
set_option maxHeartbeats 4000000 in
theorem wX12_writtenLevel {Γ : ao_C} {ρ : ao_H} (d : Nat) (hd : 1 ≤ d) : ∀ n : Nat, (∀ (r0 : Nat) (x1 : Int32) (x2 : Int32) (M : ao_M) (y : Int32 × ao_M), fX12_writtenLevel n 0 r0 x1 x2 0 M ρ = some y → ao_W Γ uX12_writtenLevel (ao_rm d 0 0) (ao_Q Γ (ao_PI ρ y) 0 0) 0 0 0 [some (.ref (Γ.2.2.2 + r0)), some (.int x1), some (.int x2), none] [] (M, ρ)) ∧ (∀ (r0 : Nat) (x1 : Int32) (x2 : Int32) (x3 : Int32) (M : ao_M) (y : Int32 × ao_M), fX12_writtenLevel n 9 r0 x1 x2 x3 M ρ = some y → ao_W Γ uX12_writtenLevel (ao_rm d 0 0) (ao_Q Γ (ao_PI ρ y) 0 0) 0 0 9 [some (.ref (Γ.2.2.2 + r0)), some (.int x1), some (.int x2), some (.int x3)] [] (M, ρ)) := by
  intro n
  induction n with
  | zero => exact ⟨fun _ _ _ _ _ h => ao_no h, fun _ _ _ _ _ _ h => ao_no h⟩
  | succ n ih =>
    refine ⟨?_, ?_⟩
    · intro r0 x1 x2 M y h
      replace h := ao_ifT h rfl
      refine ao_aload_n 0 dX12_writtenLevel_0 rfl rfl ?_
      obtain ⟨hk1, h⟩ := ao_some h
      obtain ⟨j2, hj2, h⟩ := ao_bind h
      refine an_getR r0 12 34 (q := (RX12, TX12, 83)) dX12_writtenLevel_1 rfl hk1 (Nat.le_of_ble_eq_true rfl) rfl lf_X12_202 hj2 ?_
      refine ao_iload_n 1 dX12_writtenLevel_4 rfl rfl ?_
      obtain ⟨hk3, h⟩ := ao_some h
      obtain ⟨hb4, h⟩ := ao_some h
      refine an_iaload j2 dX12_writtenLevel_5 hk3 hb4 ?_
      refine ao_iconst (v := 1) dX12_writtenLevel_6 (by decide) ?_
      refine ao_isub dX12_writtenLevel_7 ?_
      refine an_topi (fun v5 hv5 => ?_)
      replace h := ao_letD h hv5
      refine ao_istore_n 3 (lo' := [some (.ref (Γ.2.2.2 + r0)), some (.int x1), some (.int x2), some (.int v5)]) dX12_writtenLevel_8 rfl (Nat.le_of_ble_eq_true rfl) rfl ?_
      exact ih.2 r0 x1 x2 v5 M _ h
    · intro r0 x1 x2 x3 M y h
      replace h := ao_ifF h (by decide)
      replace h := ao_ifT h rfl
      refine ao_iload_n 3 dX12_writtenLevel_9 rfl rfl ?_
      refine ao_if_lt 36 dX12_writtenLevel_10 (by decide) (fun c6 => ?_) (fun c6 => ?_)
      · replace h := ao_ifT h c6
        refine ao_iconst (v := (-1)) dX12_writtenLevel_36 (by decide) ?_
        cases h
        exact ao_ireturn dX12_writtenLevel_37 rfl rfl ⟨rfl, rfl⟩
      · replace h := ao_ifF h c6
        refine ao_aload_n 0 dX12_writtenLevel_13 rfl rfl ?_
        obtain ⟨hk7, h⟩ := ao_some h
        obtain ⟨j8, hj8, h⟩ := ao_bind h
        refine an_getR r0 12 56 (q := (RX12, TX12, 83)) dX12_writtenLevel_14 rfl hk7 (Nat.le_of_ble_eq_true rfl) rfl lf_X12_269 hj8 ?_
        refine ao_aload_n 0 dX12_writtenLevel_17 rfl rfl ?_
        refine ao_iload_n 1 dX12_writtenLevel_18 rfl rfl ?_
        refine ao_iload_n 3 dX12_writtenLevel_19 rfl rfl ?_
        refine ao_iload_n 2 dX12_writtenLevel_20 rfl rfl ?_
        obtain ⟨p9, hp9, h⟩ := ao_bind h
        refine an_callVi r0 12 (q := (RX12, TX12, 83)) [.int x1, .int x3, .int x2] (aX12_cell (d - 1) (by omega) r0 x1 x3 x2 M ρ hp9) dX12_writtenLevel_21 lc_X12_357 li_X12_cell ls_X12_cell rfl hk7 rfl rfl (Nat.le_of_ble_eq_true rfl) (ao_hR (by omega) (by decide)) ?_
        obtain ⟨hk10, h⟩ := ao_some h
        obtain ⟨hb11, h⟩ := ao_some h
        refine an_zaload j8 dX12_writtenLevel_24 hk10 hb11 ?_
        refine ao_if_eq 30 dX12_writtenLevel_25 (by decide) (fun c12 => ?_) (fun c12 => ?_)
        · replace h := ao_ifT h c12
          obtain ⟨v13, hv13⟩ : ∃ z : Int32, z = x3 + (-1 : Int32) := ⟨_, rfl⟩
          replace h := ao_letD h hv13
          refine ao_iinc 3 (v := v13) (lo' := [some (.ref (Γ.2.2.2 + r0)), some (.int x1), some (.int x2), some (.int v13)]) dX12_writtenLevel_30 rfl (by rw [hv13]; rfl) (Nat.le_of_ble_eq_true rfl) rfl ?_
          refine ao_goto 9 dX12_writtenLevel_33 (by decide) ?_
          exact ih.2 r0 x1 x2 v13 p9.2 _ h
        · replace h := ao_ifF h c12
          refine ao_iload_n 3 dX12_writtenLevel_28 rfl rfl ?_
          cases h
          exact ao_ireturn dX12_writtenLevel_29 rfl rfl ⟨rfl, rfl⟩
set_option maxRecDepth 100000 in
set_option maxHeartbeats 4000000 in
theorem aX12_writtenLevel {Γ : ao_C} (d : Nat) (hd : 1 ≤ d) (n : Nat) (r0 : Nat) (x1 : Int32) (x2 : Int32) (M : ao_M) (ρ : ao_H) {y : Int32 × ao_M} (h : gX12_writtenLevel n r0 x1 x2 M ρ = some y) : ao_A Γ uX12_writtenLevel d 0 0 [.ref (Γ.2.2.2 + r0), .int x1, .int x2] (M, ρ) (ao_PI ρ y) := by
  refine ao_of (by decide) (ao_cat1 (Nat.le_of_ble_eq_true rfl)) (Nat.le_of_ble_eq_true rfl) ?_
  show ao_W Γ uX12_writtenLevel (ao_rm d 0 0) (ao_Q Γ (ao_PI ρ y) 0 0) 0 0 0 [some (.ref (Γ.2.2.2 + r0)), some (.int x1), some (.int x2), none] [] (M, ρ)
  exact (wX12_writtenLevel d hd n).1 r0 x1 x2 M y h

abbrev uX12_addRead : ao_Mi := (yX12_addRead, cX12_addRead, 5, none, [])
def gX12_addRead (r0 : Nat) (x1 : Int32) (x2 : Int32) (x3 : Int32) (M : ao_M) (ρ : ao_H) : Option (ao_M) :=
  if ρ.2.1 r0 = 22 then
  (ρ.1 r0 34).bind fun j2 =>
  if ρ.2.1 j2 = 0 then
  if ¬ (x1 < 0 ∨ ρ.2.2.1 j2 ≤ x1.toNatClampNeg) then
  (gX12_cell r0 x1 ((M j2 x1.toNatClampNeg) - (1 : Int32)) x2 M ρ).bind fun p5 =>
  ao_let p5.1 fun v6 =>
  (ρ.1 r0 55).bind fun j7 =>
  if ρ.2.1 j7 = 2 then
  if ¬ (v6 < 0 ∨ ρ.2.2.1 j7 ≤ v6.toNatClampNeg) then
  if (p5.2 j7 v6.toNatClampNeg) = 0 then
    ao_let (ao_u p5.2 j7 v6.toNatClampNeg (1 : Int32)) fun M11 =>
    (ρ.1 r0 57).bind fun j12 =>
    if ρ.2.1 j12 = 0 then
    if ¬ (v6 < 0 ∨ ρ.2.2.1 j12 ≤ v6.toNatClampNeg) then
    ao_let (ao_u M11 j12 v6.toNatClampNeg x3) fun M15 =>
    (ρ.1 r0 58).bind fun j16 =>
    (ρ.1 r0 18).bind fun j17 =>
    if ρ.2.1 j17 = 0 then
    if ¬ (x2 < 0 ∨ ρ.2.2.1 j17 ≤ x2.toNatClampNeg) then
    if ρ.2.1 j16 = 0 then
    if ¬ (v6 < 0 ∨ ρ.2.2.1 j16 ≤ v6.toNatClampNeg) then
    ao_let (ao_u M15 j16 v6.toNatClampNeg (M15 j17 x2.toNatClampNeg)) fun M22 =>
    (ρ.1 r0 59).bind fun j23 =>
    if ρ.2.1 j23 = 0 then
    if ¬ (v6 < 0 ∨ ρ.2.2.1 j23 ≤ v6.toNatClampNeg) then
    ao_let (ao_u M22 j23 v6.toNatClampNeg (M22 r0 64)) fun M26 =>
    ao_let (ao_u M26 r0 64 ((M26 r0 64) + (1 : Int32))) fun M27 =>
    some M27
    else none
    else none
    else none
    else none
    else none
    else none
    else none
    else none
  else
    some p5.2
  else none
  else none
  else none
  else none
  else none
set_option maxRecDepth 100000 in
set_option maxHeartbeats 4000000 in
theorem aX12_addRead {Γ : ao_C} (d : Nat) (hd : 1 ≤ d) (r0 : Nat) (x1 : Int32) (x2 : Int32) (x3 : Int32) (M : ao_M) (ρ : ao_H) {y : ao_M} (h : gX12_addRead r0 x1 x2 x3 M ρ = some y) : ao_A Γ uX12_addRead d 0 0 [.ref (Γ.2.2.2 + r0), .int x1, .int x2, .int x3] (M, ρ) (ao_PV ρ y) := by
  refine ao_of (by decide) (ao_cat1 (Nat.le_of_ble_eq_true rfl)) (Nat.le_of_ble_eq_true rfl) ?_
  show ao_W Γ uX12_addRead (ao_rm d 0 0) (ao_Q Γ (ao_PV ρ y) 0 0) 0 0 0 [some (.ref (Γ.2.2.2 + r0)), some (.int x1), some (.int x2), some (.int x3), none] [] (M, ρ)
  unfold gX12_addRead at h
  refine ao_aload_n 0 dX12_addRead_0 rfl rfl ?_
  refine ao_iload_n 1 dX12_addRead_1 rfl rfl ?_
  refine ao_aload_n 0 dX12_addRead_2 rfl rfl ?_
  obtain ⟨hk1, h⟩ := ao_some h
  obtain ⟨j2, hj2, h⟩ := ao_bind h
  refine an_getR r0 12 34 (q := (RX12, TX12, 83)) dX12_addRead_3 rfl hk1 (Nat.le_of_ble_eq_true rfl) rfl lf_X12_202 hj2 ?_
  refine ao_iload_n 1 dX12_addRead_6 rfl rfl ?_
  obtain ⟨hk3, h⟩ := ao_some h
  obtain ⟨hb4, h⟩ := ao_some h
  refine an_iaload j2 dX12_addRead_7 hk3 hb4 ?_
  refine ao_iconst (v := 1) dX12_addRead_8 (by decide) ?_
  refine ao_isub dX12_addRead_9 ?_
  refine ao_iload_n 2 dX12_addRead_10 rfl rfl ?_
  obtain ⟨p5, hp5, h⟩ := ao_bind h
  refine an_callVi r0 12 (q := (RX12, TX12, 83)) [.int x1, .int ((M j2 x1.toNatClampNeg) - (1 : Int32)), .int x2] (aX12_cell (d - 1) (by omega) r0 x1 ((M j2 x1.toNatClampNeg) - (1 : Int32)) x2 M ρ hp5) dX12_addRead_11 lc_X12_357 li_X12_cell ls_X12_cell rfl hk1 rfl rfl (Nat.le_of_ble_eq_true rfl) (ao_hR (by omega) (by decide)) ?_
  refine an_topi (fun v6 hv6 => ?_)
  replace h := ao_letD h hv6
  refine ao_istore 4 (lo' := [some (.ref (Γ.2.2.2 + r0)), some (.int x1), some (.int x2), some (.int x3), some (.int v6)]) dX12_addRead_14 (Nat.le_of_ble_eq_true rfl) rfl ?_
  refine ao_aload_n 0 dX12_addRead_16 rfl rfl ?_
  obtain ⟨j7, hj7, h⟩ := ao_bind h
  refine an_getR r0 12 55 (q := (RX12, TX12, 83)) dX12_addRead_17 rfl hk1 (Nat.le_of_ble_eq_true rfl) rfl lf_X12_266 hj7 ?_
  refine ao_iload 4 dX12_addRead_20 rfl ?_
  obtain ⟨hk8, h⟩ := ao_some h
  obtain ⟨hb9, h⟩ := ao_some h
  refine an_zaload j7 dX12_addRead_22 hk8 hb9 ?_
  refine ao_if_eq 27 dX12_addRead_23 (by decide) (fun c10 => ?_) (fun c10 => ?_)
  · replace h := ao_ifT h c10
    refine ao_aload_n 0 dX12_addRead_27 rfl rfl ?_
    refine an_getR r0 12 55 (q := (RX12, TX12, 83)) dX12_addRead_28 rfl hk1 (Nat.le_of_ble_eq_true rfl) rfl lf_X12_266 hj7 ?_
    refine ao_iload 4 dX12_addRead_31 rfl ?_
    refine ao_iconst (v := 1) dX12_addRead_33 (by decide) ?_
    refine an_zastore j7 dX12_addRead_34 hk8 hb9 rfl (fun M11 hM11 => ?_)
    replace h := ao_letD h hM11
    refine ao_aload_n 0 dX12_addRead_35 rfl rfl ?_
    obtain ⟨j12, hj12, h⟩ := ao_bind h
    refine an_getR r0 12 57 (q := (RX12, TX12, 83)) dX12_addRead_36 rfl hk1 (Nat.le_of_ble_eq_true rfl) rfl lf_X12_272 hj12 ?_
    refine ao_iload 4 dX12_addRead_39 rfl ?_
    refine ao_iload_n 3 dX12_addRead_41 rfl rfl ?_
    obtain ⟨hk13, h⟩ := ao_some h
    obtain ⟨hb14, h⟩ := ao_some h
    refine an_iastore j12 dX12_addRead_42 hk13 hb14 (fun M15 hM15 => ?_)
    replace h := ao_letD h hM15
    refine ao_aload_n 0 dX12_addRead_43 rfl rfl ?_
    obtain ⟨j16, hj16, h⟩ := ao_bind h
    refine an_getR r0 12 58 (q := (RX12, TX12, 83)) dX12_addRead_44 rfl hk1 (Nat.le_of_ble_eq_true rfl) rfl lf_X12_275 hj16 ?_
    refine ao_iload 4 dX12_addRead_47 rfl ?_
    refine ao_aload_n 0 dX12_addRead_49 rfl rfl ?_
    obtain ⟨j17, hj17, h⟩ := ao_bind h
    refine an_getR r0 12 18 (q := (RX12, TX12, 83)) dX12_addRead_50 rfl hk1 (Nat.le_of_ble_eq_true rfl) rfl lf_X12_157 hj17 ?_
    refine ao_iload_n 2 dX12_addRead_53 rfl rfl ?_
    obtain ⟨hk18, h⟩ := ao_some h
    obtain ⟨hb19, h⟩ := ao_some h
    refine an_iaload j17 dX12_addRead_54 hk18 hb19 ?_
    obtain ⟨hk20, h⟩ := ao_some h
    obtain ⟨hb21, h⟩ := ao_some h
    refine an_iastore j16 dX12_addRead_55 hk20 hb21 (fun M22 hM22 => ?_)
    replace h := ao_letD h hM22
    refine ao_aload_n 0 dX12_addRead_56 rfl rfl ?_
    obtain ⟨j23, hj23, h⟩ := ao_bind h
    refine an_getR r0 12 59 (q := (RX12, TX12, 83)) dX12_addRead_57 rfl hk1 (Nat.le_of_ble_eq_true rfl) rfl lf_X12_278 hj23 ?_
    refine ao_iload 4 dX12_addRead_60 rfl ?_
    refine ao_aload_n 0 dX12_addRead_62 rfl rfl ?_
    refine an_getI r0 12 64 (q := (RX12, TX12, 83)) dX12_addRead_63 rfl hk1 (Nat.le_of_ble_eq_true rfl) rfl lf_X12_366 ?_
    obtain ⟨hk24, h⟩ := ao_some h
    obtain ⟨hb25, h⟩ := ao_some h
    refine an_iastore j23 dX12_addRead_66 hk24 hb25 (fun M26 hM26 => ?_)
    replace h := ao_letD h hM26
    refine ao_aload_n 0 dX12_addRead_67 rfl rfl ?_
    refine ao_dup dX12_addRead_68 rfl ?_
    refine an_getI r0 12 64 (q := (RX12, TX12, 83)) dX12_addRead_69 rfl hk1 (Nat.le_of_ble_eq_true rfl) rfl lf_X12_366 ?_
    refine ao_iconst (v := 1) dX12_addRead_72 (by decide) ?_
    refine ao_iadd dX12_addRead_73 ?_
    refine an_putI r0 12 64 (q := (RX12, TX12, 83)) dX12_addRead_74 rfl hk1 (Nat.le_of_ble_eq_true rfl) lf_X12_366 rfl rfl rfl rfl (fun M27 hM27 => ?_)
    replace h := ao_letD h hM27
    cases h
    exact ao_return dX12_addRead_77 rfl ⟨rfl, rfl⟩
  · replace h := ao_ifF h c10
    cases h
    exact ao_return dX12_addRead_26 rfl ⟨rfl, rfl⟩

abbrev uX12_goesOn : ao_Mi := (yX12_goesOn, cX12_goesOn, 2, (some .boolean), [])
def fX12_goesOn : Nat → Nat → Nat → Int32 →  ao_M → ao_H → Option (Int32 × ao_S)
  | 0, _, _, _, _, _ => none
  | n + 1, pc, r0, x1, M, ρ =>
    if pc = 0 then
      if ρ.2.1 r0 = 22 then
      (gX12_wrongLevel n r0 x1 M ρ).bind fun p2 =>
      if 0 ≤ p2.1 then
        (gX12_conflict n r0 x1 p2.2 ρ).bind fun p4 =>
        fX12_goesOn n 15 r0 x1 p4.1 p4.2
      else
        some ((1 : Int32), p2.2, ρ)
      else none
    else if pc = 15 then
      some ((0 : Int32), M, ρ)
    else none
def gX12_goesOn (n : Nat) (r0 : Nat) (x1 : Int32) (M : ao_M) (ρ : ao_H) : Option (Int32 × ao_S) := fX12_goesOn n 0 r0 x1 M ρ
set_option maxRecDepth 100000 in
set_option maxHeartbeats 4000000 in
theorem mX12_goesOn : ∀ n : Nat, (∀ (r0 : Nat) (x1 : Int32) (M : ao_M) (ρ : ao_H) (y : Int32 × ao_S), fX12_goesOn n 0 r0 x1 M ρ = some y → ao_le ρ y.2.2) ∧ (∀ (r0 : Nat) (x1 : Int32) (M : ao_M) (ρ : ao_H) (y : Int32 × ao_S), fX12_goesOn n 15 r0 x1 M ρ = some y → ao_le ρ y.2.2) := by
  intro n
  induction n with
  | zero => exact ⟨fun _ _ _ _ _ h => ao_no h, fun _ _ _ _ _ h => ao_no h⟩
  | succ n ih =>
    refine ⟨?_, ?_⟩
    · intro r0 x1 M ρ y h
      replace h := ao_ifT h rfl
      obtain ⟨-, h⟩ := ao_some h
      obtain ⟨p2, hp2, h⟩ := ao_bind h
      rcases ao_ifC h with h | h
      · obtain ⟨p4, hp4, h⟩ := ao_bind h
        exact ao_le_tr (me_X12_conflict n r0 x1 p2.2 ρ hp4) (ih.2 r0 x1 p4.1 p4.2 _ h)
      · cases h
        exact ao_le_rf _
    · intro r0 x1 M ρ y h
      replace h := ao_ifF h (by decide)
      replace h := ao_ifT h rfl
      cases h
      exact ao_le_rf _
set_option maxRecDepth 100000 in
set_option maxHeartbeats 4000000 in
theorem wX12_goesOn {Γ : ao_C} (d : Nat) (hd : 5 ≤ d) (MC MS : Nat) : ∀ n : Nat, (∀ (r0 : Nat) (x1 : Int32) (M : ao_M) (ρ : ao_H) (y : Int32 × ao_S), fX12_goesOn n 0 r0 x1 M ρ = some y → ao_W Γ uX12_goesOn (ao_rm d MC MS) (ao_Q Γ (ao_QI y) MC MS) (ao_dc ρ y.2.2) (ao_ds ρ y.2.2) 0 [some (.ref (Γ.2.2.2 + r0)), some (.int x1)] [] (M, ρ)) ∧ (∀ (r0 : Nat) (x1 : Int32) (M : ao_M) (ρ : ao_H) (y : Int32 × ao_S), fX12_goesOn n 15 r0 x1 M ρ = some y → ao_W Γ uX12_goesOn (ao_rm d MC MS) (ao_Q Γ (ao_QI y) MC MS) (ao_dc ρ y.2.2) (ao_ds ρ y.2.2) 15 [some (.ref (Γ.2.2.2 + r0)), some (.int x1)] [] (M, ρ)) := by
  intro n
  induction n with
  | zero => exact ⟨fun _ _ _ _ _ h => ao_no h, fun _ _ _ _ _ h => ao_no h⟩
  | succ n ih =>
    refine ⟨?_, ?_⟩
    · intro r0 x1 M ρ y h
      replace h := ao_ifT h rfl
      refine ao_aload_n 0 dX12_goesOn_0 rfl rfl ?_
      refine ao_iload_n 1 dX12_goesOn_1 rfl rfl ?_
      obtain ⟨hk1, h⟩ := ao_some h
      obtain ⟨p2, hp2, h⟩ := ao_bind h
      refine an_callVi r0 12 (q := (RX12, TX12, 83)) [.int x1] (aX12_wrongLevel (d - 1) (by omega) _ r0 x1 M ρ hp2) dX12_goesOn_2 lc_X12_393 li_X12_wrongLevel ls_X12_wrongLevel rfl hk1 rfl rfl (Nat.le_of_ble_eq_true rfl) (ao_hR (by omega) (by decide)) ?_
      refine ao_if_ge 10 dX12_goesOn_5 (by decide) (fun c3 => ?_) (fun c3 => ?_)
      · replace h := ao_ifT h c3
        refine ao_aload_n 0 dX12_goesOn_10 rfl rfl ?_
        refine ao_iload_n 1 dX12_goesOn_11 rfl rfl ?_
        obtain ⟨p4, hp4, h⟩ := ao_bind h
        refine ba_callVv r0 12 (q := (RX12, TX12, 83)) [.int x1] (aX12_conflict (d - 1) (by omega) n r0 x1 p2.2 ρ hp4) dX12_goesOn_12 lc_X12_399 li_X12_conflict ls_X12_conflict rfl hk1 rfl rfl (Nat.le_of_ble_eq_true rfl) (ao_hR (by omega) (by decide)) (ao_leC (me_X12_conflict n r0 x1 p2.2 ρ hp4) ((mX12_goesOn n).2 r0 x1 p4.1 p4.2 _ h)) (ao_leS (me_X12_conflict n r0 x1 p2.2 ρ hp4) ((mX12_goesOn n).2 r0 x1 p4.1 p4.2 _ h)) ?_
        exact ih.2 r0 x1 p4.1 p4.2 _ h
      · replace h := ao_ifF h c3
        refine ao_iconst (v := 1) dX12_goesOn_8 (by decide) ?_
        cases h
        exact ao_ireturn dX12_goesOn_9 rfl rfl ⟨rfl, rfl⟩
    · intro r0 x1 M ρ y h
      replace h := ao_ifF h (by decide)
      replace h := ao_ifT h rfl
      refine ao_iconst (v := 0) dX12_goesOn_15 (by decide) ?_
      cases h
      exact ao_ireturn dX12_goesOn_16 rfl rfl ⟨rfl, rfl⟩
theorem me_X12_goesOn (n : Nat) (r0 : Nat) (x1 : Int32) (M : ao_M) (ρ : ao_H) {y : Int32 × ao_S} (h : gX12_goesOn n r0 x1 M ρ = some y) : ao_le ρ y.2.2 := (mX12_goesOn n).1 r0 x1 M ρ y h
set_option maxRecDepth 100000 in
set_option maxHeartbeats 4000000 in
theorem aX12_goesOn {Γ : ao_C} (d : Nat) (hd : 5 ≤ d) (n : Nat) (r0 : Nat) (x1 : Int32) (M : ao_M) (ρ : ao_H) {y : Int32 × ao_S} (h : gX12_goesOn n r0 x1 M ρ = some y) : ao_A Γ uX12_goesOn d (ao_dc ρ y.2.2) (ao_ds ρ y.2.2) [.ref (Γ.2.2.2 + r0), .int x1] (M, ρ) (ao_QI y) := by
  refine ao_of (by decide) (ao_cat1 (Nat.le_of_ble_eq_true rfl)) (Nat.le_of_ble_eq_true rfl) ?_
  show ao_W Γ uX12_goesOn (ao_rm d (ao_dc ρ y.2.2) (ao_ds ρ y.2.2)) (ao_Q Γ (ao_QI y) (ao_dc ρ y.2.2) (ao_ds ρ y.2.2)) (ao_dc ρ y.2.2) (ao_ds ρ y.2.2) 0 [some (.ref (Γ.2.2.2 + r0)), some (.int x1)] [] (M, ρ)
  exact (wX12_goesOn d hd _ _ n).1 r0 x1 M ρ y h
