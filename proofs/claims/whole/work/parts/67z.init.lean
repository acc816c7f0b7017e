abbrev uX12_init : ao_Mi := (yX12_init, cX12_init, 1, none, [])
def fX12_init_c12 : Nat → Nat → Nat → Nat → Nat →  ao_M → ao_H → Option (ao_S)
  | 0, _, _, _, _, _, _ => none
  | n + 1, pc, r0, q0, q1, M, ρ =>
    if pc = 518 then
      if ρ.2.1 r0 = 22 then
      (gX12_begin n r0 (0 : Int32) M ρ).bind fun p183 =>
      some (p183, ρ)
      else none
    else none
set_option maxRecDepth 100000 in
set_option maxHeartbeats 4000000 in
theorem mX12_init_c12 : ∀ n : Nat, (∀ (r0 : Nat) (M : ao_M) (ρ : ao_H) (y : ao_S), fX12_init_c12 n 518 r0 0 0 M ρ = some y → ao_le ρ y.2) := by
  intro n
  induction n with
  | zero => exact fun _ _ _ _ h => ao_no h
  | succ n ih =>
    · intro r0 M ρ y h
      rw [fX12_init_c12.eq_2] at h
      replace h := ao_ifT h rfl
      obtain ⟨-, h⟩ := ao_some h
      obtain ⟨p183, hp183, h⟩ := ao_bind h
      cases h
      exact ao_le_rf _
set_option maxRecDepth 100000 in
set_option maxHeartbeats 4000000 in
theorem wX12_init_c12 {Γ : ao_C} (d : Nat) (hd : 5 ≤ d) (MC MS : Nat) : ∀ n : Nat, (∀ (r0 : Nat) (M : ao_M) (ρ : ao_H) (y : ao_S), fX12_init_c12 n 518 r0 0 0 M ρ = some y → ao_W Γ uX12_init (ao_rm d MC MS) (ao_Q Γ (ao_QV y) MC MS) (ao_dc ρ y.2) (ao_ds ρ y.2) 518 [some (.ref (Γ.2.2.2 + r0))] [] (M, ρ)) := by
  intro n
  induction n with
  | zero => exact fun _ _ _ _ h => ao_no h
  | succ n ih =>
    · intro r0 M ρ y h
      rw [fX12_init_c12.eq_2] at h
      replace h := ao_ifT h rfl
      refine ao_aload_n 0 dX12_init_518 rfl rfl ?_
      refine ao_iconst (v := 0) dX12_init_519 (by decide) ?_
      obtain ⟨hk182, h⟩ := ao_some h
      obtain ⟨p183, hp183, h⟩ := ao_bind h
      refine an_callVv r0 12 (q := (RX12, TX12, 83)) [.int (0 : Int32)] (aX12_begin (d - 1) (by omega) _ r0 (0 : Int32) M ρ hp183) dX12_init_520 lc_X12_329 li_X12_begin ls_X12_begin rfl hk182 rfl rfl (Nat.le_of_ble_eq_true rfl) (ao_hR (by omega) (by decide)) ?_
      cases h
      exact ao_return dX12_init_523 rfl ⟨rfl, rfl⟩
def fX12_init_c11 : Nat → Nat → Nat → Nat → Nat →  ao_M → ao_H → Option (ao_S)
  | 0, _, _, _, _, _, _ => none
  | n + 1, pc, r0, q0, q1, M, ρ =>
    if pc = 476 then
      (ρ.2.2.2.1).bind fun n167 =>
      if ¬ (7800 : Int32) < 0 ∧ (7800 : Int32).toNatClampNeg * 8 ≤ 536870912 then
      fX12_init_c11 n 482 r0 n167 r0 (ao_zr M n167) (ao_nw ρ n167 2 (7800 : Int32).toNatClampNeg (7800 : Int32).toNatClampNeg)
      else none
    else if pc = 482 then
      if ρ.2.1 q1 = 22 then
      fX12_init_c11 n 485 r0 0 0 M (ao_r ρ q1 75 (some q0))
      else none
    else if pc = 485 then
      (ρ.2.2.2.1).bind fun n170 =>
      if ¬ (15 : Int32) < 0 ∧ (15 : Int32).toNatClampNeg * 8 ≤ 536870912 then
      fX12_init_c11 n 490 r0 n170 r0 (ao_zr M n170) (ao_nw ρ n170 0 (15 : Int32).toNatClampNeg (15 : Int32).toNatClampNeg)
      else none
    else if pc = 490 then
      if ρ.2.1 q1 = 22 then
      fX12_init_c11 n 493 r0 0 0 M (ao_r ρ q1 78 (some q0))
      else none
    else if pc = 493 then
      (ρ.2.2.2.1).bind fun n173 =>
      if ¬ (16 : Int32) < 0 ∧ (16 : Int32).toNatClampNeg * 8 ≤ 536870912 then
      fX12_init_c11 n 498 r0 n173 r0 (ao_zr M n173) (ao_nw ρ n173 0 (16 : Int32).toNatClampNeg (16 : Int32).toNatClampNeg)
      else none
    else if pc = 498 then
      if ρ.2.1 q1 = 22 then
      fX12_init_c11 n 501 r0 0 0 M (ao_r ρ q1 79 (some q0))
      else none
    else if pc = 501 then
      (ρ.2.2.2.1).bind fun n176 =>
      if ¬ (416 : Int32) < 0 ∧ (416 : Int32).toNatClampNeg * 8 ≤ 536870912 then
      fX12_init_c11 n 507 r0 n176 r0 (ao_zr M n176) (ao_nw ρ n176 0 (416 : Int32).toNatClampNeg (416 : Int32).toNatClampNeg)
      else none
    else if pc = 507 then
      if ρ.2.1 q1 = 22 then
      fX12_init_c11 n 510 r0 0 0 M (ao_r ρ q1 80 (some q0))
      else none
    else if pc = 510 then
      (ρ.2.2.2.1).bind fun n179 =>
      if ¬ (15 : Int32) < 0 ∧ (15 : Int32).toNatClampNeg * 8 ≤ 536870912 then
      fX12_init_c11 n 515 r0 n179 r0 (ao_zr M n179) (ao_nw ρ n179 2 (15 : Int32).toNatClampNeg (15 : Int32).toNatClampNeg)
      else none
    else if pc = 515 then
      if ρ.2.1 q1 = 22 then
      fX12_init_c12 n 518 r0 0 0 M (ao_r ρ q1 81 (some q0))
      else none
    else none
set_option maxRecDepth 100000 in
set_option maxHeartbeats 4000000 in
theorem mX12_init_c11 : ∀ n : Nat, (∀ (r0 : Nat) (M : ao_M) (ρ : ao_H) (y : ao_S), fX12_init_c11 n 476 r0 0 0 M ρ = some y → ao_le ρ y.2) ∧ (∀ (r0 : Nat) (q0 : Nat) (q1 : Nat) (M : ao_M) (ρ : ao_H) (y : ao_S), fX12_init_c11 n 482 r0 q0 q1 M ρ = some y → ao_le ρ y.2) ∧ (∀ (r0 : Nat) (M : ao_M) (ρ : ao_H) (y : ao_S), fX12_init_c11 n 485 r0 0 0 M ρ = some y → ao_le ρ y.2) ∧ (∀ (r0 : Nat) (q0 : Nat) (q1 : Nat) (M : ao_M) (ρ : ao_H) (y : ao_S), fX12_init_c11 n 490 r0 q0 q1 M ρ = some y → ao_le ρ y.2) ∧ (∀ (r0 : Nat) (M : ao_M) (ρ : ao_H) (y : ao_S), fX12_init_c11 n 493 r0 0 0 M ρ = some y → ao_le ρ y.2) ∧ (∀ (r0 : Nat) (q0 : Nat) (q1 : Nat) (M : ao_M) (ρ : ao_H) (y : ao_S), fX12_init_c11 n 498 r0 q0 q1 M ρ = some y → ao_le ρ y.2) ∧ (∀ (r0 : Nat) (M : ao_M) (ρ : ao_H) (y : ao_S), fX12_init_c11 n 501 r0 0 0 M ρ = some y → ao_le ρ y.2) ∧ (∀ (r0 : Nat) (q0 : Nat) (q1 : Nat) (M : ao_M) (ρ : ao_H) (y : ao_S), fX12_init_c11 n 507 r0 q0 q1 M ρ = some y → ao_le ρ y.2) ∧ (∀ (r0 : Nat) (M : ao_M) (ρ : ao_H) (y : ao_S), fX12_init_c11 n 510 r0 0 0 M ρ = some y → ao_le ρ y.2) ∧ (∀ (r0 : Nat) (q0 : Nat) (q1 : Nat) (M : ao_M) (ρ : ao_H) (y : ao_S), fX12_init_c11 n 515 r0 q0 q1 M ρ = some y → ao_le ρ y.2) := by
  intro n
  induction n with
  | zero => exact ⟨fun _ _ _ _ h => ao_no h, fun _ _ _ _ _ _ h => ao_no h, fun _ _ _ _ h => ao_no h, fun _ _ _ _ _ _ h => ao_no h, fun _ _ _ _ h => ao_no h, fun _ _ _ _ _ _ h => ao_no h, fun _ _ _ _ h => ao_no h, fun _ _ _ _ _ _ h => ao_no h, fun _ _ _ _ h => ao_no h, fun _ _ _ _ _ _ h => ao_no h⟩
  | succ n ih =>
    refine ⟨?_, ?_, ?_, ?_, ?_, ?_, ?_, ?_, ?_, ?_⟩
    · intro r0 M ρ y h
      replace h := ao_ifT h rfl
      obtain ⟨n167, hn167, h⟩ := ao_bind h
      obtain ⟨-, h⟩ := ao_some h
      exact ao_le_tr (ao_le_nw _ _ _ _ _) (ih.2.1 r0 n167 r0 (ao_zr M n167) (ao_nw ρ n167 2 (7800 : Int32).toNatClampNeg (7800 : Int32).toNatClampNeg) _ h)
    · intro r0 q0 q1 M ρ y h
      replace h := ao_ifF h (by decide)
      replace h := ao_ifT h rfl
      obtain ⟨-, h⟩ := ao_some h
      exact ao_le_tr (ao_le_r _ _ _ _) (ih.2.2.1 r0 M (ao_r ρ q1 75 (some q0)) _ h)
    · intro r0 M ρ y h
      replace h := ao_ifF h (by decide)
      replace h := ao_ifF h (by decide)
      replace h := ao_ifT h rfl
      obtain ⟨n170, hn170, h⟩ := ao_bind h
      obtain ⟨-, h⟩ := ao_some h
      exact ao_le_tr (ao_le_nw _ _ _ _ _) (ih.2.2.2.1 r0 n170 r0 (ao_zr M n170) (ao_nw ρ n170 0 (15 : Int32).toNatClampNeg (15 : Int32).toNatClampNeg) _ h)
    · intro r0 q0 q1 M ρ y h
      replace h := ao_ifF h (by decide)
      replace h := ao_ifF h (by decide)
      replace h := ao_ifF h (by decide)
      replace h := ao_ifT h rfl
      obtain ⟨-, h⟩ := ao_some h
      exact ao_le_tr (ao_le_r _ _ _ _) (ih.2.2.2.2.1 r0 M (ao_r ρ q1 78 (some q0)) _ h)
    · intro r0 M ρ y h
      replace h := ao_ifF h (by decide)
      replace h := ao_ifF h (by decide)
      replace h := ao_ifF h (by decide)
      replace h := ao_ifF h (by decide)
      replace h := ao_ifT h rfl
      obtain ⟨n173, hn173, h⟩ := ao_bind h
      obtain ⟨-, h⟩ := ao_some h
      exact ao_le_tr (ao_le_nw _ _ _ _ _) (ih.2.2.2.2.2.1 r0 n173 r0 (ao_zr M n173) (ao_nw ρ n173 0 (16 : Int32).toNatClampNeg (16 : Int32).toNatClampNeg) _ h)
    · intro r0 q0 q1 M ρ y h
      replace h := ao_ifF h (by decide)
      replace h := ao_ifF h (by decide)
      replace h := ao_ifF h (by decide)
      replace h := ao_ifF h (by decide)
      replace h := ao_ifF h (by decide)
      replace h := ao_ifT h rfl
      obtain ⟨-, h⟩ := ao_some h
      exact ao_le_tr (ao_le_r _ _ _ _) (ih.2.2.2.2.2.2.1 r0 M (ao_r ρ q1 79 (some q0)) _ h)
    · intro r0 M ρ y h
      replace h := ao_ifF h (by decide)
      replace h := ao_ifF h (by decide)
      replace h := ao_ifF h (by decide)
      replace h := ao_ifF h (by decide)
      replace h := ao_ifF h (by decide)
      replace h := ao_ifF h (by decide)
      replace h := ao_ifT h rfl
      obtain ⟨n176, hn176, h⟩ := ao_bind h
      obtain ⟨-, h⟩ := ao_some h
      exact ao_le_tr (ao_le_nw _ _ _ _ _) (ih.2.2.2.2.2.2.2.1 r0 n176 r0 (ao_zr M n176) (ao_nw ρ n176 0 (416 : Int32).toNatClampNeg (416 : Int32).toNatClampNeg) _ h)
    · intro r0 q0 q1 M ρ y h
      replace h := ao_ifF h (by decide)
      replace h := ao_ifF h (by decide)
      replace h := ao_ifF h (by decide)
      replace h := ao_ifF h (by decide)
      replace h := ao_ifF h (by decide)
      replace h := ao_ifF h (by decide)
      replace h := ao_ifF h (by decide)
      replace h := ao_ifT h rfl
      obtain ⟨-, h⟩ := ao_some h
      exact ao_le_tr (ao_le_r _ _ _ _) (ih.2.2.2.2.2.2.2.2.1 r0 M (ao_r ρ q1 80 (some q0)) _ h)
    · intro r0 M ρ y h
      replace h := ao_ifF h (by decide)
      replace h := ao_ifF h (by decide)
      replace h := ao_ifF h (by decide)
      replace h := ao_ifF h (by decide)
      replace h := ao_ifF h (by decide)
      replace h := ao_ifF h (by decide)
      replace h := ao_ifF h (by decide)
      replace h := ao_ifF h (by decide)
      replace h := ao_ifT h rfl
      obtain ⟨n179, hn179, h⟩ := ao_bind h
      obtain ⟨-, h⟩ := ao_some h
      exact ao_le_tr (ao_le_nw _ _ _ _ _) (ih.2.2.2.2.2.2.2.2.2 r0 n179 r0 (ao_zr M n179) (ao_nw ρ n179 2 (15 : Int32).toNatClampNeg (15 : Int32).toNatClampNeg) _ h)
    · intro r0 q0 q1 M ρ y h
      replace h := ao_ifF h (by decide)
      replace h := ao_ifF h (by decide)
      replace h := ao_ifF h (by decide)
      replace h := ao_ifF h (by decide)
      replace h := ao_ifF h (by decide)
      replace h := ao_ifF h (by decide)
      replace h := ao_ifF h (by decide)
      replace h := ao_ifF h (by decide)
      replace h := ao_ifF h (by decide)
      replace h := ao_ifT h rfl
      obtain ⟨-, h⟩ := ao_some h
      exact ao_le_tr (ao_le_r _ _ _ _) ((mX12_init_c12 n) r0 M (ao_r ρ q1 81 (some q0)) _ h)
set_option maxRecDepth 100000 in
set_option maxHeartbeats 4000000 in
theorem wX12_init_c11 {Γ : ao_C} (d : Nat) (hd : 5 ≤ d) (MC MS : Nat) : ∀ n : Nat, (∀ (r0 : Nat) (M : ao_M) (ρ : ao_H) (y : ao_S), fX12_init_c11 n 476 r0 0 0 M ρ = some y → ao_W Γ uX12_init (ao_rm d MC MS) (ao_Q Γ (ao_QV y) MC MS) (ao_dc ρ y.2) (ao_ds ρ y.2) 476 [some (.ref (Γ.2.2.2 + r0))] [] (M, ρ)) ∧ (∀ (r0 : Nat) (q0 : Nat) (q1 : Nat) (M : ao_M) (ρ : ao_H) (y : ao_S), fX12_init_c11 n 482 r0 q0 q1 M ρ = some y → ao_W Γ uX12_init (ao_rm d MC MS) (ao_Q Γ (ao_QV y) MC MS) (ao_dc ρ y.2) (ao_ds ρ y.2) 482 [some (.ref (Γ.2.2.2 + r0))] [.ref (Γ.2.2.2 + q0), .ref (Γ.2.2.2 + q1)] (M, ρ)) ∧ (∀ (r0 : Nat) (M : ao_M) (ρ : ao_H) (y : ao_S), fX12_init_c11 n 485 r0 0 0 M ρ = some y → ao_W Γ uX12_init (ao_rm d MC MS) (ao_Q Γ (ao_QV y) MC MS) (ao_dc ρ y.2) (ao_ds ρ y.2) 485 [some (.ref (Γ.2.2.2 + r0))] [] (M, ρ)) ∧ (∀ (r0 : Nat) (q0 : Nat) (q1 : Nat) (M : ao_M) (ρ : ao_H) (y : ao_S), fX12_init_c11 n 490 r0 q0 q1 M ρ = some y → ao_W Γ uX12_init (ao_rm d MC MS) (ao_Q Γ (ao_QV y) MC MS) (ao_dc ρ y.2) (ao_ds ρ y.2) 490 [some (.ref (Γ.2.2.2 + r0))] [.ref (Γ.2.2.2 + q0), .ref (Γ.2.2.2 + q1)] (M, ρ)) ∧ (∀ (r0 : Nat) (M : ao_M) (ρ : ao_H) (y : ao_S), fX12_init_c11 n 493 r0 0 0 M ρ = some y → ao_W Γ uX12_init (ao_rm d MC MS) (ao_Q Γ (ao_QV y) MC MS) (ao_dc ρ y.2) (ao_ds ρ y.2) 493 [some (.ref (Γ.2.2.2 + r0))] [] (M, ρ)) ∧ (∀ (r0 : Nat) (q0 : Nat) (q1 : Nat) (M : ao_M) (ρ : ao_H) (y : ao_S), fX12_init_c11 n 498 r0 q0 q1 M ρ = some y → ao_W Γ uX12_init (ao_rm d MC MS) (ao_Q Γ (ao_QV y) MC MS) (ao_dc ρ y.2) (ao_ds ρ y.2) 498 [some (.ref (Γ.2.2.2 + r0))] [.ref (Γ.2.2.2 + q0), .ref (Γ.2.2.2 + q1)] (M, ρ)) ∧ (∀ (r0 : Nat) (M : ao_M) (ρ : ao_H) (y : ao_S), fX12_init_c11 n 501 r0 0 0 M ρ = some y → ao_W Γ uX12_init (ao_rm d MC MS) (ao_Q Γ (ao_QV y) MC MS) (ao_dc ρ y.2) (ao_ds ρ y.2) 501 [some (.ref (Γ.2.2.2 + r0))] [] (M, ρ)) ∧ (∀ (r0 : Nat) (q0 : Nat) (q1 : Nat) (M : ao_M) (ρ : ao_H) (y : ao_S), fX12_init_c11 n 507 r0 q0 q1 M ρ = some y → ao_W Γ uX12_init (ao_rm d MC MS) (ao_Q Γ (ao_QV y) MC MS) (ao_dc ρ y.2) (ao_ds ρ y.2) 507 [some (.ref (Γ.2.2.2 + r0))] [.ref (Γ.2.2.2 + q0), .ref (Γ.2.2.2 + q1)] (M, ρ)) ∧ (∀ (r0 : Nat) (M : ao_M) (ρ : ao_H) (y : ao_S), fX12_init_c11 n 510 r0 0 0 M ρ = some y → ao_W Γ uX12_init (ao_rm d MC MS) (ao_Q Γ (ao_QV y) MC MS) (ao_dc ρ y.2) (ao_ds ρ y.2) 510 [some (.ref (Γ.2.2.2 + r0))] [] (M, ρ)) ∧ (∀ (r0 : Nat) (q0 : Nat) (q1 : Nat) (M : ao_M) (ρ : ao_H) (y : ao_S), fX12_init_c11 n 515 r0 q0 q1 M ρ = some y → ao_W Γ uX12_init (ao_rm d MC MS) (ao_Q Γ (ao_QV y) MC MS) (ao_dc ρ y.2) (ao_ds ρ y.2) 515 [some (.ref (Γ.2.2.2 + r0))] [.ref (Γ.2.2.2 + q0), .ref (Γ.2.2.2 + q1)] (M, ρ)) := by
  intro n
  induction n with
  | zero => exact ⟨fun _ _ _ _ h => ao_no h, fun _ _ _ _ _ _ h => ao_no h, fun _ _ _ _ h => ao_no h, fun _ _ _ _ _ _ h => ao_no h, fun _ _ _ _ h => ao_no h, fun _ _ _ _ _ _ h => ao_no h, fun _ _ _ _ h => ao_no h, fun _ _ _ _ _ _ h => ao_no h, fun _ _ _ _ h => ao_no h, fun _ _ _ _ _ _ h => ao_no h⟩
  | succ n ih =>
    refine ⟨?_, ?_, ?_, ?_, ?_, ?_, ?_, ?_, ?_, ?_⟩
    · intro r0 M ρ y h
      replace h := ao_ifT h rfl
      refine ao_aload_n 0 dX12_init_476 rfl rfl ?_
      refine ao_sipush (v := 7800) dX12_init_477 (by decide) ?_
      obtain ⟨n167, hn167, h⟩ := ao_bind h
      obtain ⟨hb168, h⟩ := ao_some h
      refine ba_newa n167 2 dX12_init_480 rfl (by decide) hn167 lna_2 hb168.1 hb168.2 (ao_dc_nw ((mX12_init_c11 n).2.1 r0 n167 r0 (ao_zr M n167) (ao_nw ρ n167 2 (7800 : Int32).toNatClampNeg (7800 : Int32).toNatClampNeg) _ h)) ?_
      exact ih.2.1 r0 n167 r0 (ao_zr M n167) (ao_nw ρ n167 2 (7800 : Int32).toNatClampNeg (7800 : Int32).toNatClampNeg) _ h
    · intro r0 q0 q1 M ρ y h
      replace h := ao_ifF h (by decide)
      replace h := ao_ifT h rfl
      obtain ⟨hk169, h⟩ := ao_some h
      refine ba_putR q1 12 75 (q := (RX12, TX12, 83)) dX12_init_482 rfl hk169 (Nat.le_of_ble_eq_true rfl) lf_X12_314 (Or.inr ⟨rfl, rfl⟩) rfl rfl rfl ?_
      exact ih.2.2.1 r0 M (ao_r ρ q1 75 (some q0)) _ h
    · intro r0 M ρ y h
      replace h := ao_ifF h (by decide)
      replace h := ao_ifF h (by decide)
      replace h := ao_ifT h rfl
      refine ao_aload_n 0 dX12_init_485 rfl rfl ?_
      refine ao_bipush (v := 15) dX12_init_486 (by decide) ?_
      obtain ⟨n170, hn170, h⟩ := ao_bind h
      obtain ⟨hb171, h⟩ := ao_some h
      refine ba_newa n170 0 dX12_init_488 rfl (by decide) hn170 lna_0 hb171.1 hb171.2 (ao_dc_nw ((mX12_init_c11 n).2.2.2.1 r0 n170 r0 (ao_zr M n170) (ao_nw ρ n170 0 (15 : Int32).toNatClampNeg (15 : Int32).toNatClampNeg) _ h)) ?_
      exact ih.2.2.2.1 r0 n170 r0 (ao_zr M n170) (ao_nw ρ n170 0 (15 : Int32).toNatClampNeg (15 : Int32).toNatClampNeg) _ h
    · intro r0 q0 q1 M ρ y h
      replace h := ao_ifF h (by decide)
      replace h := ao_ifF h (by decide)
      replace h := ao_ifF h (by decide)
      replace h := ao_ifT h rfl
      obtain ⟨hk172, h⟩ := ao_some h
      refine ba_putR q1 12 78 (q := (RX12, TX12, 83)) dX12_init_490 rfl hk172 (Nat.le_of_ble_eq_true rfl) lf_X12_317 (Or.inr ⟨rfl, rfl⟩) rfl rfl rfl ?_
      exact ih.2.2.2.2.1 r0 M (ao_r ρ q1 78 (some q0)) _ h
    · intro r0 M ρ y h
      replace h := ao_ifF h (by decide)
      replace h := ao_ifF h (by decide)
      replace h := ao_ifF h (by decide)
      replace h := ao_ifF h (by decide)
      replace h := ao_ifT h rfl
      refine ao_aload_n 0 dX12_init_493 rfl rfl ?_
      refine ao_bipush (v := 16) dX12_init_494 (by decide) ?_
      obtain ⟨n173, hn173, h⟩ := ao_bind h
      obtain ⟨hb174, h⟩ := ao_some h
      refine ba_newa n173 0 dX12_init_496 rfl (by decide) hn173 lna_0 hb174.1 hb174.2 (ao_dc_nw ((mX12_init_c11 n).2.2.2.2.2.1 r0 n173 r0 (ao_zr M n173) (ao_nw ρ n173 0 (16 : Int32).toNatClampNeg (16 : Int32).toNatClampNeg) _ h)) ?_
      exact ih.2.2.2.2.2.1 r0 n173 r0 (ao_zr M n173) (ao_nw ρ n173 0 (16 : Int32).toNatClampNeg (16 : Int32).toNatClampNeg) _ h
    · intro r0 q0 q1 M ρ y h
      replace h := ao_ifF h (by decide)
      replace h := ao_ifF h (by decide)
      replace h := ao_ifF h (by decide)
      replace h := ao_ifF h (by decide)
      replace h := ao_ifF h (by decide)
      replace h := ao_ifT h rfl
      obtain ⟨hk175, h⟩ := ao_some h
      refine ba_putR q1 12 79 (q := (RX12, TX12, 83)) dX12_init_498 rfl hk175 (Nat.le_of_ble_eq_true rfl) lf_X12_320 (Or.inr ⟨rfl, rfl⟩) rfl rfl rfl ?_
      exact ih.2.2.2.2.2.2.1 r0 M (ao_r ρ q1 79 (some q0)) _ h
    · intro r0 M ρ y h
      replace h := ao_ifF h (by decide)
      replace h := ao_ifF h (by decide)
      replace h := ao_ifF h (by decide)
      replace h := ao_ifF h (by decide)
      replace h := ao_ifF h (by decide)
      replace h := ao_ifF h (by decide)
      replace h := ao_ifT h rfl
      refine ao_aload_n 0 dX12_init_501 rfl rfl ?_
      refine ao_sipush (v := 416) dX12_init_502 (by decide) ?_
      obtain ⟨n176, hn176, h⟩ := ao_bind h
      obtain ⟨hb177, h⟩ := ao_some h
      refine ba_newa n176 0 dX12_init_505 rfl (by decide) hn176 lna_0 hb177.1 hb177.2 (ao_dc_nw ((mX12_init_c11 n).2.2.2.2.2.2.2.1 r0 n176 r0 (ao_zr M n176) (ao_nw ρ n176 0 (416 : Int32).toNatClampNeg (416 : Int32).toNatClampNeg) _ h)) ?_
      exact ih.2.2.2.2.2.2.2.1 r0 n176 r0 (ao_zr M n176) (ao_nw ρ n176 0 (416 : Int32).toNatClampNeg (416 : Int32).toNatClampNeg) _ h
    · intro r0 q0 q1 M ρ y h
      replace h := ao_ifF h (by decide)
      replace h := ao_ifF h (by decide)
      replace h := ao_ifF h (by decide)
      replace h := ao_ifF h (by decide)
      replace h := ao_ifF h (by decide)
      replace h := ao_ifF h (by decide)
      replace h := ao_ifF h (by decide)
      replace h := ao_ifT h rfl
      obtain ⟨hk178, h⟩ := ao_some h
      refine ba_putR q1 12 80 (q := (RX12, TX12, 83)) dX12_init_507 rfl hk178 (Nat.le_of_ble_eq_true rfl) lf_X12_323 (Or.inr ⟨rfl, rfl⟩) rfl rfl rfl ?_
      exact ih.2.2.2.2.2.2.2.2.1 r0 M (ao_r ρ q1 80 (some q0)) _ h
    · intro r0 M ρ y h
      replace h := ao_ifF h (by decide)
      replace h := ao_ifF h (by decide)
      replace h := ao_ifF h (by decide)
      replace h := ao_ifF h (by decide)
      replace h := ao_ifF h (by decide)
      replace h := ao_ifF h (by decide)
      replace h := ao_ifF h (by decide)
      replace h := ao_ifF h (by decide)
      replace h := ao_ifT h rfl
      refine ao_aload_n 0 dX12_init_510 rfl rfl ?_
      refine ao_bipush (v := 15) dX12_init_511 (by decide) ?_
      obtain ⟨n179, hn179, h⟩ := ao_bind h
      obtain ⟨hb180, h⟩ := ao_some h
      refine ba_newa n179 2 dX12_init_513 rfl (by decide) hn179 lna_2 hb180.1 hb180.2 (ao_dc_nw ((mX12_init_c11 n).2.2.2.2.2.2.2.2.2 r0 n179 r0 (ao_zr M n179) (ao_nw ρ n179 2 (15 : Int32).toNatClampNeg (15 : Int32).toNatClampNeg) _ h)) ?_
      exact ih.2.2.2.2.2.2.2.2.2 r0 n179 r0 (ao_zr M n179) (ao_nw ρ n179 2 (15 : Int32).toNatClampNeg (15 : Int32).toNatClampNeg) _ h
    · intro r0 q0 q1 M ρ y h
      replace h := ao_ifF h (by decide)
      replace h := ao_ifF h (by decide)
      replace h := ao_ifF h (by decide)
      replace h := ao_ifF h (by decide)
      replace h := ao_ifF h (by decide)
      replace h := ao_ifF h (by decide)
      replace h := ao_ifF h (by decide)
      replace h := ao_ifF h (by decide)
      replace h := ao_ifF h (by decide)
      replace h := ao_ifT h rfl
      obtain ⟨hk181, h⟩ := ao_some h
      refine ba_putR q1 12 81 (q := (RX12, TX12, 83)) dX12_init_515 rfl hk181 (Nat.le_of_ble_eq_true rfl) lf_X12_326 (Or.inr ⟨rfl, rfl⟩) rfl rfl rfl ?_
      exact (wX12_init_c12 d hd MC MS n) r0 M (ao_r ρ q1 81 (some q0)) _ h
def fX12_init_c10 : Nat → Nat → Nat → Nat → Nat →  ao_M → ao_H → Option (ao_S)
  | 0, _, _, _, _, _, _ => none
  | n + 1, pc, r0, q0, q1, M, ρ =>
    if pc = 431 then
      (ρ.2.2.2.1).bind fun n152 =>
      if ¬ (300 : Int32) < 0 ∧ (300 : Int32).toNatClampNeg * 8 ≤ 536870912 then
      fX12_init_c10 n 437 r0 n152 r0 (ao_zr M n152) (ao_nw ρ n152 0 (300 : Int32).toNatClampNeg (300 : Int32).toNatClampNeg)
      else none
    else if pc = 437 then
      if ρ.2.1 q1 = 22 then
      fX12_init_c10 n 440 r0 0 0 M (ao_r ρ q1 70 (some q0))
      else none
    else if pc = 440 then
      (ρ.2.2.2.1).bind fun n155 =>
      if ¬ (300 : Int32) < 0 ∧ (300 : Int32).toNatClampNeg * 8 ≤ 536870912 then
      fX12_init_c10 n 446 r0 n155 r0 (ao_zr M n155) (ao_nw ρ n155 0 (300 : Int32).toNatClampNeg (300 : Int32).toNatClampNeg)
      else none
    else if pc = 446 then
      if ρ.2.1 q1 = 22 then
      fX12_init_c10 n 449 r0 0 0 M (ao_r ρ q1 71 (some q0))
      else none
    else if pc = 449 then
      (ρ.2.2.2.1).bind fun n158 =>
      if ¬ (7800 : Int32) < 0 ∧ (7800 : Int32).toNatClampNeg * 8 ≤ 536870912 then
      fX12_init_c10 n 455 r0 n158 r0 (ao_zr M n158) (ao_nw ρ n158 0 (7800 : Int32).toNatClampNeg (7800 : Int32).toNatClampNeg)
      else none
    else if pc = 455 then
      if ρ.2.1 q1 = 22 then
      fX12_init_c10 n 458 r0 0 0 M (ao_r ρ q1 72 (some q0))
      else none
    else if pc = 458 then
      (ρ.2.2.2.1).bind fun n161 =>
      if ¬ (7800 : Int32) < 0 ∧ (7800 : Int32).toNatClampNeg * 8 ≤ 536870912 then
      fX12_init_c10 n 464 r0 n161 r0 (ao_zr M n161) (ao_nw ρ n161 0 (7800 : Int32).toNatClampNeg (7800 : Int32).toNatClampNeg)
      else none
    else if pc = 464 then
      if ρ.2.1 q1 = 22 then
      fX12_init_c10 n 467 r0 0 0 M (ao_r ρ q1 73 (some q0))
      else none
    else if pc = 467 then
      (ρ.2.2.2.1).bind fun n164 =>
      if ¬ (7800 : Int32) < 0 ∧ (7800 : Int32).toNatClampNeg * 8 ≤ 536870912 then
      fX12_init_c10 n 473 r0 n164 r0 (ao_zr M n164) (ao_nw ρ n164 2 (7800 : Int32).toNatClampNeg (7800 : Int32).toNatClampNeg)
      else none
    else if pc = 473 then
      if ρ.2.1 q1 = 22 then
      fX12_init_c11 n 476 r0 0 0 M (ao_r ρ q1 74 (some q0))
      else none
    else none
set_option maxRecDepth 100000 in
set_option maxHeartbeats 4000000 in
theorem mX12_init_c10 : ∀ n : Nat, (∀ (r0 : Nat) (M : ao_M) (ρ : ao_H) (y : ao_S), fX12_init_c10 n 431 r0 0 0 M ρ = some y → ao_le ρ y.2) ∧ (∀ (r0 : Nat) (q0 : Nat) (q1 : Nat) (M : ao_M) (ρ : ao_H) (y : ao_S), fX12_init_c10 n 437 r0 q0 q1 M ρ = some y → ao_le ρ y.2) ∧ (∀ (r0 : Nat) (M : ao_M) (ρ : ao_H) (y : ao_S), fX12_init_c10 n 440 r0 0 0 M ρ = some y → ao_le ρ y.2) ∧ (∀ (r0 : Nat) (q0 : Nat) (q1 : Nat) (M : ao_M) (ρ : ao_H) (y : ao_S), fX12_init_c10 n 446 r0 q0 q1 M ρ = some y → ao_le ρ y.2) ∧ (∀ (r0 : Nat) (M : ao_M) (ρ : ao_H) (y : ao_S), fX12_init_c10 n 449 r0 0 0 M ρ = some y → ao_le ρ y.2) ∧ (∀ (r0 : Nat) (q0 : Nat) (q1 : Nat) (M : ao_M) (ρ : ao_H) (y : ao_S), fX12_init_c10 n 455 r0 q0 q1 M ρ = some y → ao_le ρ y.2) ∧ (∀ (r0 : Nat) (M : ao_M) (ρ : ao_H) (y : ao_S), fX12_init_c10 n 458 r0 0 0 M ρ = some y → ao_le ρ y.2) ∧ (∀ (r0 : Nat) (q0 : Nat) (q1 : Nat) (M : ao_M) (ρ : ao_H) (y : ao_S), fX12_init_c10 n 464 r0 q0 q1 M ρ = some y → ao_le ρ y.2) ∧ (∀ (r0 : Nat) (M : ao_M) (ρ : ao_H) (y : ao_S), fX12_init_c10 n 467 r0 0 0 M ρ = some y → ao_le ρ y.2) ∧ (∀ (r0 : Nat) (q0 : Nat) (q1 : Nat) (M : ao_M) (ρ : ao_H) (y : ao_S), fX12_init_c10 n 473 r0 q0 q1 M ρ = some y → ao_le ρ y.2) := by
  intro n
  induction n with
  | zero => exact ⟨fun _ _ _ _ h => ao_no h, fun _ _ _ _ _ _ h => ao_no h, fun _ _ _ _ h => ao_no h, fun _ _ _ _ _ _ h => ao_no h, fun _ _ _ _ h => ao_no h, fun _ _ _ _ _ _ h => ao_no h, fun _ _ _ _ h => ao_no h, fun _ _ _ _ _ _ h => ao_no h, fun _ _ _ _ h => ao_no h, fun _ _ _ _ _ _ h => ao_no h⟩
  | succ n ih =>
    refine ⟨?_, ?_, ?_, ?_, ?_, ?_, ?_, ?_, ?_, ?_⟩
    · intro r0 M ρ y h
      replace h := ao_ifT h rfl
      obtain ⟨n152, hn152, h⟩ := ao_bind h
      obtain ⟨-, h⟩ := ao_some h
      exact ao_le_tr (ao_le_nw _ _ _ _ _) (ih.2.1 r0 n152 r0 (ao_zr M n152) (ao_nw ρ n152 0 (300 : Int32).toNatClampNeg (300 : Int32).toNatClampNeg) _ h)
    · intro r0 q0 q1 M ρ y h
      replace h := ao_ifF h (by decide)
      replace h := ao_ifT h rfl
      obtain ⟨-, h⟩ := ao_some h
      exact ao_le_tr (ao_le_r _ _ _ _) (ih.2.2.1 r0 M (ao_r ρ q1 70 (some q0)) _ h)
    · intro r0 M ρ y h
      replace h := ao_ifF h (by decide)
      replace h := ao_ifF h (by decide)
      replace h := ao_ifT h rfl
      obtain ⟨n155, hn155, h⟩ := ao_bind h
      obtain ⟨-, h⟩ := ao_some h
      exact ao_le_tr (ao_le_nw _ _ _ _ _) (ih.2.2.2.1 r0 n155 r0 (ao_zr M n155) (ao_nw ρ n155 0 (300 : Int32).toNatClampNeg (300 : Int32).toNatClampNeg) _ h)
    · intro r0 q0 q1 M ρ y h
      replace h := ao_ifF h (by decide)
      replace h := ao_ifF h (by decide)
      replace h := ao_ifF h (by decide)
      replace h := ao_ifT h rfl
      obtain ⟨-, h⟩ := ao_some h
      exact ao_le_tr (ao_le_r _ _ _ _) (ih.2.2.2.2.1 r0 M (ao_r ρ q1 71 (some q0)) _ h)
    · intro r0 M ρ y h
      replace h := ao_ifF h (by decide)
      replace h := ao_ifF h (by decide)
      replace h := ao_ifF h (by decide)
      replace h := ao_ifF h (by decide)
      replace h := ao_ifT h rfl
      obtain ⟨n158, hn158, h⟩ := ao_bind h
      obtain ⟨-, h⟩ := ao_some h
      exact ao_le_tr (ao_le_nw _ _ _ _ _) (ih.2.2.2.2.2.1 r0 n158 r0 (ao_zr M n158) (ao_nw ρ n158 0 (7800 : Int32).toNatClampNeg (7800 : Int32).toNatClampNeg) _ h)
    · intro r0 q0 q1 M ρ y h
      replace h := ao_ifF h (by decide)
      replace h := ao_ifF h (by decide)
      replace h := ao_ifF h (by decide)
      replace h := ao_ifF h (by decide)
      replace h := ao_ifF h (by decide)
      replace h := ao_ifT h rfl
      obtain ⟨-, h⟩ := ao_some h
      exact ao_le_tr (ao_le_r _ _ _ _) (ih.2.2.2.2.2.2.1 r0 M (ao_r ρ q1 72 (some q0)) _ h)
    · intro r0 M ρ y h
      replace h := ao_ifF h (by decide)
      replace h := ao_ifF h (by decide)
      replace h := ao_ifF h (by decide)
      replace h := ao_ifF h (by decide)
      replace h := ao_ifF h (by decide)
      replace h := ao_ifF h (by decide)
      replace h := ao_ifT h rfl
      obtain ⟨n161, hn161, h⟩ := ao_bind h
      obtain ⟨-, h⟩ := ao_some h
      exact ao_le_tr (ao_le_nw _ _ _ _ _) (ih.2.2.2.2.2.2.2.1 r0 n161 r0 (ao_zr M n161) (ao_nw ρ n161 0 (7800 : Int32).toNatClampNeg (7800 : Int32).toNatClampNeg) _ h)
    · intro r0 q0 q1 M ρ y h
      replace h := ao_ifF h (by decide)
      replace h := ao_ifF h (by decide)
      replace h := ao_ifF h (by decide)
      replace h := ao_ifF h (by decide)
      replace h := ao_ifF h (by decide)
      replace h := ao_ifF h (by decide)
      replace h := ao_ifF h (by decide)
      replace h := ao_ifT h rfl
      obtain ⟨-, h⟩ := ao_some h
      exact ao_le_tr (ao_le_r _ _ _ _) (ih.2.2.2.2.2.2.2.2.1 r0 M (ao_r ρ q1 73 (some q0)) _ h)
    · intro r0 M ρ y h
      replace h := ao_ifF h (by decide)
      replace h := ao_ifF h (by decide)
      replace h := ao_ifF h (by decide)
      replace h := ao_ifF h (by decide)
      replace h := ao_ifF h (by decide)
      replace h := ao_ifF h (by decide)
      replace h := ao_ifF h (by decide)
      replace h := ao_ifF h (by decide)
      replace h := ao_ifT h rfl
      obtain ⟨n164, hn164, h⟩ := ao_bind h
      obtain ⟨-, h⟩ := ao_some h
      exact ao_le_tr (ao_le_nw _ _ _ _ _) (ih.2.2.2.2.2.2.2.2.2 r0 n164 r0 (ao_zr M n164) (ao_nw ρ n164 2 (7800 : Int32).toNatClampNeg (7800 : Int32).toNatClampNeg) _ h)
    · intro r0 q0 q1 M ρ y h
      replace h := ao_ifF h (by decide)
      replace h := ao_ifF h (by decide)
      replace h := ao_ifF h (by decide)
      replace h := ao_ifF h (by decide)
      replace h := ao_ifF h (by decide)
      replace h := ao_ifF h (by decide)
      replace h := ao_ifF h (by decide)
      replace h := ao_ifF h (by decide)
      replace h := ao_ifF h (by decide)
      replace h := ao_ifT h rfl
      obtain ⟨-, h⟩ := ao_some h
      exact ao_le_tr (ao_le_r _ _ _ _) ((mX12_init_c11 n).1 r0 M (ao_r ρ q1 74 (some q0)) _ h)
set_option maxRecDepth 100000 in
set_option maxHeartbeats 4000000 in
theorem wX12_init_c10 {Γ : ao_C} (d : Nat) (hd : 5 ≤ d) (MC MS : Nat) : ∀ n : Nat, (∀ (r0 : Nat) (M : ao_M) (ρ : ao_H) (y : ao_S), fX12_init_c10 n 431 r0 0 0 M ρ = some y → ao_W Γ uX12_init (ao_rm d MC MS) (ao_Q Γ (ao_QV y) MC MS) (ao_dc ρ y.2) (ao_ds ρ y.2) 431 [some (.ref (Γ.2.2.2 + r0))] [] (M, ρ)) ∧ (∀ (r0 : Nat) (q0 : Nat) (q1 : Nat) (M : ao_M) (ρ : ao_H) (y : ao_S), fX12_init_c10 n 437 r0 q0 q1 M ρ = some y → ao_W Γ uX12_init (ao_rm d MC MS) (ao_Q Γ (ao_QV y) MC MS) (ao_dc ρ y.2) (ao_ds ρ y.2) 437 [some (.ref (Γ.2.2.2 + r0))] [.ref (Γ.2.2.2 + q0), .ref (Γ.2.2.2 + q1)] (M, ρ)) ∧ (∀ (r0 : Nat) (M : ao_M) (ρ : ao_H) (y : ao_S), fX12_init_c10 n 440 r0 0 0 M ρ = some y → ao_W Γ uX12_init (ao_rm d MC MS) (ao_Q Γ (ao_QV y) MC MS) (ao_dc ρ y.2) (ao_ds ρ y.2) 440 [some (.ref (Γ.2.2.2 + r0))] [] (M, ρ)) ∧ (∀ (r0 : Nat) (q0 : Nat) (q1 : Nat) (M : ao_M) (ρ : ao_H) (y : ao_S), fX12_init_c10 n 446 r0 q0 q1 M ρ = some y → ao_W Γ uX12_init (ao_rm d MC MS) (ao_Q Γ (ao_QV y) MC MS) (ao_dc ρ y.2) (ao_ds ρ y.2) 446 [some (.ref (Γ.2.2.2 + r0))] [.ref (Γ.2.2.2 + q0), .ref (Γ.2.2.2 + q1)] (M, ρ)) ∧ (∀ (r0 : Nat) (M : ao_M) (ρ : ao_H) (y : ao_S), fX12_init_c10 n 449 r0 0 0 M ρ = some y → ao_W Γ uX12_init (ao_rm d MC MS) (ao_Q Γ (ao_QV y) MC MS) (ao_dc ρ y.2) (ao_ds ρ y.2) 449 [some (.ref (Γ.2.2.2 + r0))] [] (M, ρ)) ∧ (∀ (r0 : Nat) (q0 : Nat) (q1 : Nat) (M : ao_M) (ρ : ao_H) (y : ao_S), fX12_init_c10 n 455 r0 q0 q1 M ρ = some y → ao_W Γ uX12_init (ao_rm d MC MS) (ao_Q Γ (ao_QV y) MC MS) (ao_dc ρ y.2) (ao_ds ρ y.2) 455 [some (.ref (Γ.2.2.2 + r0))] [.ref (Γ.2.2.2 + q0), .ref (Γ.2.2.2 + q1)] (M, ρ)) ∧ (∀ (r0 : Nat) (M : ao_M) (ρ : ao_H) (y : ao_S), fX12_init_c10 n 458 r0 0 0 M ρ = some y → ao_W Γ uX12_init (ao_rm d MC MS) (ao_Q Γ (ao_QV y) MC MS) (ao_dc ρ y.2) (ao_ds ρ y.2) 458 [some (.ref (Γ.2.2.2 + r0))] [] (M, ρ)) ∧ (∀ (r0 : Nat) (q0 : Nat) (q1 : Nat) (M : ao_M) (ρ : ao_H) (y : ao_S), fX12_init_c10 n 464 r0 q0 q1 M ρ = some y → ao_W Γ uX12_init (ao_rm d MC MS) (ao_Q Γ (ao_QV y) MC MS) (ao_dc ρ y.2) (ao_ds ρ y.2) 464 [some (.ref (Γ.2.2.2 + r0))] [.ref (Γ.2.2.2 + q0), .ref (Γ.2.2.2 + q1)] (M, ρ)) ∧ (∀ (r0 : Nat) (M : ao_M) (ρ : ao_H) (y : ao_S), fX12_init_c10 n 467 r0 0 0 M ρ = some y → ao_W Γ uX12_init (ao_rm d MC MS) (ao_Q Γ (ao_QV y) MC MS) (ao_dc ρ y.2) (ao_ds ρ y.2) 467 [some (.ref (Γ.2.2.2 + r0))] [] (M, ρ)) ∧ (∀ (r0 : Nat) (q0 : Nat) (q1 : Nat) (M : ao_M) (ρ : ao_H) (y : ao_S), fX12_init_c10 n 473 r0 q0 q1 M ρ = some y → ao_W Γ uX12_init (ao_rm d MC MS) (ao_Q Γ (ao_QV y) MC MS) (ao_dc ρ y.2) (ao_ds ρ y.2) 473 [some (.ref (Γ.2.2.2 + r0))] [.ref (Γ.2.2.2 + q0), .ref (Γ.2.2.2 + q1)] (M, ρ)) := by
  intro n
  induction n with
  | zero => exact ⟨fun _ _ _ _ h => ao_no h, fun _ _ _ _ _ _ h => ao_no h, fun _ _ _ _ h => ao_no h, fun _ _ _ _ _ _ h => ao_no h, fun _ _ _ _ h => ao_no h, fun _ _ _ _ _ _ h => ao_no h, fun _ _ _ _ h => ao_no h, fun _ _ _ _ _ _ h => ao_no h, fun _ _ _ _ h => ao_no h, fun _ _ _ _ _ _ h => ao_no h⟩
  | succ n ih =>
    refine ⟨?_, ?_, ?_, ?_, ?_, ?_, ?_, ?_, ?_, ?_⟩
    · intro r0 M ρ y h
      replace h := ao_ifT h rfl
      refine ao_aload_n 0 dX12_init_431 rfl rfl ?_
      refine ao_sipush (v := 300) dX12_init_432 (by decide) ?_
      obtain ⟨n152, hn152, h⟩ := ao_bind h
      obtain ⟨hb153, h⟩ := ao_some h
      refine ba_newa n152 0 dX12_init_435 rfl (by decide) hn152 lna_0 hb153.1 hb153.2 (ao_dc_nw ((mX12_init_c10 n).2.1 r0 n152 r0 (ao_zr M n152) (ao_nw ρ n152 0 (300 : Int32).toNatClampNeg (300 : Int32).toNatClampNeg) _ h)) ?_
      exact ih.2.1 r0 n152 r0 (ao_zr M n152) (ao_nw ρ n152 0 (300 : Int32).toNatClampNeg (300 : Int32).toNatClampNeg) _ h
    · intro r0 q0 q1 M ρ y h
      replace h := ao_ifF h (by decide)
      replace h := ao_ifT h rfl
      obtain ⟨hk154, h⟩ := ao_some h
      refine ba_putR q1 12 70 (q := (RX12, TX12, 83)) dX12_init_437 rfl hk154 (Nat.le_of_ble_eq_true rfl) lf_X12_299 (Or.inr ⟨rfl, rfl⟩) rfl rfl rfl ?_
      exact ih.2.2.1 r0 M (ao_r ρ q1 70 (some q0)) _ h
    · intro r0 M ρ y h
      replace h := ao_ifF h (by decide)
      replace h := ao_ifF h (by decide)
      replace h := ao_ifT h rfl
      refine ao_aload_n 0 dX12_init_440 rfl rfl ?_
      refine ao_sipush (v := 300) dX12_init_441 (by decide) ?_
      obtain ⟨n155, hn155, h⟩ := ao_bind h
      obtain ⟨hb156, h⟩ := ao_some h
      refine ba_newa n155 0 dX12_init_444 rfl (by decide) hn155 lna_0 hb156.1 hb156.2 (ao_dc_nw ((mX12_init_c10 n).2.2.2.1 r0 n155 r0 (ao_zr M n155) (ao_nw ρ n155 0 (300 : Int32).toNatClampNeg (300 : Int32).toNatClampNeg) _ h)) ?_
      exact ih.2.2.2.1 r0 n155 r0 (ao_zr M n155) (ao_nw ρ n155 0 (300 : Int32).toNatClampNeg (300 : Int32).toNatClampNeg) _ h
    · intro r0 q0 q1 M ρ y h
      replace h := ao_ifF h (by decide)
      replace h := ao_ifF h (by decide)
      replace h := ao_ifF h (by decide)
      replace h := ao_ifT h rfl
      obtain ⟨hk157, h⟩ := ao_some h
      refine ba_putR q1 12 71 (q := (RX12, TX12, 83)) dX12_init_446 rfl hk157 (Nat.le_of_ble_eq_true rfl) lf_X12_302 (Or.inr ⟨rfl, rfl⟩) rfl rfl rfl ?_
      exact ih.2.2.2.2.1 r0 M (ao_r ρ q1 71 (some q0)) _ h
    · intro r0 M ρ y h
      replace h := ao_ifF h (by decide)
      replace h := ao_ifF h (by decide)
      replace h := ao_ifF h (by decide)
      replace h := ao_ifF h (by decide)
      replace h := ao_ifT h rfl
      refine ao_aload_n 0 dX12_init_449 rfl rfl ?_
      refine ao_sipush (v := 7800) dX12_init_450 (by decide) ?_
      obtain ⟨n158, hn158, h⟩ := ao_bind h
      obtain ⟨hb159, h⟩ := ao_some h
      refine ba_newa n158 0 dX12_init_453 rfl (by decide) hn158 lna_0 hb159.1 hb159.2 (ao_dc_nw ((mX12_init_c10 n).2.2.2.2.2.1 r0 n158 r0 (ao_zr M n158) (ao_nw ρ n158 0 (7800 : Int32).toNatClampNeg (7800 : Int32).toNatClampNeg) _ h)) ?_
      exact ih.2.2.2.2.2.1 r0 n158 r0 (ao_zr M n158) (ao_nw ρ n158 0 (7800 : Int32).toNatClampNeg (7800 : Int32).toNatClampNeg) _ h
    · intro r0 q0 q1 M ρ y h
      replace h := ao_ifF h (by decide)
      replace h := ao_ifF h (by decide)
      replace h := ao_ifF h (by decide)
      replace h := ao_ifF h (by decide)
      replace h := ao_ifF h (by decide)
      replace h := ao_ifT h rfl
      obtain ⟨hk160, h⟩ := ao_some h
      refine ba_putR q1 12 72 (q := (RX12, TX12, 83)) dX12_init_455 rfl hk160 (Nat.le_of_ble_eq_true rfl) lf_X12_305 (Or.inr ⟨rfl, rfl⟩) rfl rfl rfl ?_
      exact ih.2.2.2.2.2.2.1 r0 M (ao_r ρ q1 72 (some q0)) _ h
    · intro r0 M ρ y h
      replace h := ao_ifF h (by decide)
      replace h := ao_ifF h (by decide)
      replace h := ao_ifF h (by decide)
      replace h := ao_ifF h (by decide)
      replace h := ao_ifF h (by decide)
      replace h := ao_ifF h (by decide)
      replace h := ao_ifT h rfl
      refine ao_aload_n 0 dX12_init_458 rfl rfl ?_
      refine ao_sipush (v := 7800) dX12_init_459 (by decide) ?_
      obtain ⟨n161, hn161, h⟩ := ao_bind h
      obtain ⟨hb162, h⟩ := ao_some h
      refine ba_newa n161 0 dX12_init_462 rfl (by decide) hn161 lna_0 hb162.1 hb162.2 (ao_dc_nw ((mX12_init_c10 n).2.2.2.2.2.2.2.1 r0 n161 r0 (ao_zr M n161) (ao_nw ρ n161 0 (7800 : Int32).toNatClampNeg (7800 : Int32).toNatClampNeg) _ h)) ?_
      exact ih.2.2.2.2.2.2.2.1 r0 n161 r0 (ao_zr M n161) (ao_nw ρ n161 0 (7800 : Int32).toNatClampNeg (7800 : Int32).toNatClampNeg) _ h
    · intro r0 q0 q1 M ρ y h
      replace h := ao_ifF h (by decide)
      replace h := ao_ifF h (by decide)
      replace h := ao_ifF h (by decide)
      replace h := ao_ifF h (by decide)
      replace h := ao_ifF h (by decide)
      replace h := ao_ifF h (by decide)
      replace h := ao_ifF h (by decide)
      replace h := ao_ifT h rfl
      obtain ⟨hk163, h⟩ := ao_some h
      refine ba_putR q1 12 73 (q := (RX12, TX12, 83)) dX12_init_464 rfl hk163 (Nat.le_of_ble_eq_true rfl) lf_X12_308 (Or.inr ⟨rfl, rfl⟩) rfl rfl rfl ?_
      exact ih.2.2.2.2.2.2.2.2.1 r0 M (ao_r ρ q1 73 (some q0)) _ h
    · intro r0 M ρ y h
      replace h := ao_ifF h (by decide)
      replace h := ao_ifF h (by decide)
      replace h := ao_ifF h (by decide)
      replace h := ao_ifF h (by decide)
      replace h := ao_ifF h (by decide)
      replace h := ao_ifF h (by decide)
      replace h := ao_ifF h (by decide)
      replace h := ao_ifF h (by decide)
      replace h := ao_ifT h rfl
      refine ao_aload_n 0 dX12_init_467 rfl rfl ?_
      refine ao_sipush (v := 7800) dX12_init_468 (by decide) ?_
      obtain ⟨n164, hn164, h⟩ := ao_bind h
      obtain ⟨hb165, h⟩ := ao_some h
      refine ba_newa n164 2 dX12_init_471 rfl (by decide) hn164 lna_2 hb165.1 hb165.2 (ao_dc_nw ((mX12_init_c10 n).2.2.2.2.2.2.2.2.2 r0 n164 r0 (ao_zr M n164) (ao_nw ρ n164 2 (7800 : Int32).toNatClampNeg (7800 : Int32).toNatClampNeg) _ h)) ?_
      exact ih.2.2.2.2.2.2.2.2.2 r0 n164 r0 (ao_zr M n164) (ao_nw ρ n164 2 (7800 : Int32).toNatClampNeg (7800 : Int32).toNatClampNeg) _ h
    · intro r0 q0 q1 M ρ y h
      replace h := ao_ifF h (by decide)
      replace h := ao_ifF h (by decide)
      replace h := ao_ifF h (by decide)
      replace h := ao_ifF h (by decide)
      replace h := ao_ifF h (by decide)
      replace h := ao_ifF h (by decide)
      replace h := ao_ifF h (by decide)
      replace h := ao_ifF h (by decide)
      replace h := ao_ifF h (by decide)
      replace h := ao_ifT h rfl
      obtain ⟨hk166, h⟩ := ao_some h
      refine ba_putR q1 12 74 (q := (RX12, TX12, 83)) dX12_init_473 rfl hk166 (Nat.le_of_ble_eq_true rfl) lf_X12_311 (Or.inr ⟨rfl, rfl⟩) rfl rfl rfl ?_
      exact (wX12_init_c11 d hd MC MS n).1 r0 M (ao_r ρ q1 74 (some q0)) _ h
def fX12_init_c9 : Nat → Nat → Nat → Nat → Nat →  ao_M → ao_H → Option (ao_S)
  | 0, _, _, _, _, _, _ => none
  | n + 1, pc, r0, q0, q1, M, ρ =>
    if pc = 387 then
      (ρ.2.2.2.1).bind fun n137 =>
      if ¬ (14400 : Int32) < 0 ∧ (14400 : Int32).toNatClampNeg * 8 ≤ 536870912 then
      fX12_init_c9 n 393 r0 n137 r0 (ao_zr M n137) (ao_nw ρ n137 0 (14400 : Int32).toNatClampNeg (14400 : Int32).toNatClampNeg)
      else none
    else if pc = 393 then
      if ρ.2.1 q1 = 22 then
      fX12_init_c9 n 396 r0 0 0 M (ao_r ρ q1 61 (some q0))
      else none
    else if pc = 396 then
      (ρ.2.2.2.1).bind fun n140 =>
      if ¬ (72 : Int32) < 0 ∧ (72 : Int32).toNatClampNeg * 8 ≤ 536870912 then
      fX12_init_c9 n 401 r0 n140 r0 (ao_zr M n140) (ao_nw ρ n140 0 (72 : Int32).toNatClampNeg (72 : Int32).toNatClampNeg)
      else none
    else if pc = 401 then
      if ρ.2.1 q1 = 22 then
      fX12_init_c9 n 404 r0 0 0 M (ao_r ρ q1 62 (some q0))
      else none
    else if pc = 404 then
      (ρ.2.2.2.1).bind fun n143 =>
      if ¬ (200 : Int32) < 0 ∧ (200 : Int32).toNatClampNeg * 8 ≤ 536870912 then
      fX12_init_c9 n 410 r0 n143 r0 (ao_zr M n143) (ao_nw ρ n143 0 (200 : Int32).toNatClampNeg (200 : Int32).toNatClampNeg)
      else none
    else if pc = 410 then
      if ρ.2.1 q1 = 22 then
      fX12_init_c9 n 413 r0 0 0 M (ao_r ρ q1 66 (some q0))
      else none
    else if pc = 413 then
      (ρ.2.2.2.1).bind fun n146 =>
      if ¬ (200 : Int32) < 0 ∧ (200 : Int32).toNatClampNeg * 8 ≤ 536870912 then
      fX12_init_c9 n 419 r0 n146 r0 (ao_zr M n146) (ao_nw ρ n146 0 (200 : Int32).toNatClampNeg (200 : Int32).toNatClampNeg)
      else none
    else if pc = 419 then
      if ρ.2.1 q1 = 22 then
      fX12_init_c9 n 422 r0 0 0 M (ao_r ρ q1 67 (some q0))
      else none
    else if pc = 422 then
      (ρ.2.2.2.1).bind fun n149 =>
      if ¬ (300 : Int32) < 0 ∧ (300 : Int32).toNatClampNeg * 8 ≤ 536870912 then
      fX12_init_c9 n 428 r0 n149 r0 (ao_zr M n149) (ao_nw ρ n149 0 (300 : Int32).toNatClampNeg (300 : Int32).toNatClampNeg)
      else none
    else if pc = 428 then
      if ρ.2.1 q1 = 22 then
      fX12_init_c10 n 431 r0 0 0 M (ao_r ρ q1 69 (some q0))
      else none
    else none
set_option maxRecDepth 100000 in
set_option maxHeartbeats 4000000 in
theorem mX12_init_c9 : ∀ n : Nat, (∀ (r0 : Nat) (M : ao_M) (ρ : ao_H) (y : ao_S), fX12_init_c9 n 387 r0 0 0 M ρ = some y → ao_le ρ y.2) ∧ (∀ (r0 : Nat) (q0 : Nat) (q1 : Nat) (M : ao_M) (ρ : ao_H) (y : ao_S), fX12_init_c9 n 393 r0 q0 q1 M ρ = some y → ao_le ρ y.2) ∧ (∀ (r0 : Nat) (M : ao_M) (ρ : ao_H) (y : ao_S), fX12_init_c9 n 396 r0 0 0 M ρ = some y → ao_le ρ y.2) ∧ (∀ (r0 : Nat) (q0 : Nat) (q1 : Nat) (M : ao_M) (ρ : ao_H) (y : ao_S), fX12_init_c9 n 401 r0 q0 q1 M ρ = some y → ao_le ρ y.2) ∧ (∀ (r0 : Nat) (M : ao_M) (ρ : ao_H) (y : ao_S), fX12_init_c9 n 404 r0 0 0 M ρ = some y → ao_le ρ y.2) ∧ (∀ (r0 : Nat) (q0 : Nat) (q1 : Nat) (M : ao_M) (ρ : ao_H) (y : ao_S), fX12_init_c9 n 410 r0 q0 q1 M ρ = some y → ao_le ρ y.2) ∧ (∀ (r0 : Nat) (M : ao_M) (ρ : ao_H) (y : ao_S), fX12_init_c9 n 413 r0 0 0 M ρ = some y → ao_le ρ y.2) ∧ (∀ (r0 : Nat) (q0 : Nat) (q1 : Nat) (M : ao_M) (ρ : ao_H) (y : ao_S), fX12_init_c9 n 419 r0 q0 q1 M ρ = some y → ao_le ρ y.2) ∧ (∀ (r0 : Nat) (M : ao_M) (ρ : ao_H) (y : ao_S), fX12_init_c9 n 422 r0 0 0 M ρ = some y → ao_le ρ y.2) ∧ (∀ (r0 : Nat) (q0 : Nat) (q1 : Nat) (M : ao_M) (ρ : ao_H) (y : ao_S), fX12_init_c9 n 428 r0 q0 q1 M ρ = some y → ao_le ρ y.2) := by
  intro n
  induction n with
  | zero => exact ⟨fun _ _ _ _ h => ao_no h, fun _ _ _ _ _ _ h => ao_no h, fun _ _ _ _ h => ao_no h, fun _ _ _ _ _ _ h => ao_no h, fun _ _ _ _ h => ao_no h, fun _ _ _ _ _ _ h => ao_no h, fun _ _ _ _ h => ao_no h, fun _ _ _ _ _ _ h => ao_no h, fun _ _ _ _ h => ao_no h, fun _ _ _ _ _ _ h => ao_no h⟩
  | succ n ih =>
    refine ⟨?_, ?_, ?_, ?_, ?_, ?_, ?_, ?_, ?_, ?_⟩
    · intro r0 M ρ y h
      replace h := ao_ifT h rfl
      obtain ⟨n137, hn137, h⟩ := ao_bind h
      obtain ⟨-, h⟩ := ao_some h
      exact ao_le_tr (ao_le_nw _ _ _ _ _) (ih.2.1 r0 n137 r0 (ao_zr M n137) (ao_nw ρ n137 0 (14400 : Int32).toNatClampNeg (14400 : Int32).toNatClampNeg) _ h)
    · intro r0 q0 q1 M ρ y h
      replace h := ao_ifF h (by decide)
      replace h := ao_ifT h rfl
      obtain ⟨-, h⟩ := ao_some h
      exact ao_le_tr (ao_le_r _ _ _ _) (ih.2.2.1 r0 M (ao_r ρ q1 61 (some q0)) _ h)
    · intro r0 M ρ y h
      replace h := ao_ifF h (by decide)
      replace h := ao_ifF h (by decide)
      replace h := ao_ifT h rfl
      obtain ⟨n140, hn140, h⟩ := ao_bind h
      obtain ⟨-, h⟩ := ao_some h
      exact ao_le_tr (ao_le_nw _ _ _ _ _) (ih.2.2.2.1 r0 n140 r0 (ao_zr M n140) (ao_nw ρ n140 0 (72 : Int32).toNatClampNeg (72 : Int32).toNatClampNeg) _ h)
    · intro r0 q0 q1 M ρ y h
      replace h := ao_ifF h (by decide)
      replace h := ao_ifF h (by decide)
      replace h := ao_ifF h (by decide)
      replace h := ao_ifT h rfl
      obtain ⟨-, h⟩ := ao_some h
      exact ao_le_tr (ao_le_r _ _ _ _) (ih.2.2.2.2.1 r0 M (ao_r ρ q1 62 (some q0)) _ h)
    · intro r0 M ρ y h
      replace h := ao_ifF h (by decide)
      replace h := ao_ifF h (by decide)
      replace h := ao_ifF h (by decide)
      replace h := ao_ifF h (by decide)
      replace h := ao_ifT h rfl
      obtain ⟨n143, hn143, h⟩ := ao_bind h
      obtain ⟨-, h⟩ := ao_some h
      exact ao_le_tr (ao_le_nw _ _ _ _ _) (ih.2.2.2.2.2.1 r0 n143 r0 (ao_zr M n143) (ao_nw ρ n143 0 (200 : Int32).toNatClampNeg (200 : Int32).toNatClampNeg) _ h)
    · intro r0 q0 q1 M ρ y h
      replace h := ao_ifF h (by decide)
      replace h := ao_ifF h (by decide)
      replace h := ao_ifF h (by decide)
      replace h := ao_ifF h (by decide)
      replace h := ao_ifF h (by decide)
      replace h := ao_ifT h rfl
      obtain ⟨-, h⟩ := ao_some h
      exact ao_le_tr (ao_le_r _ _ _ _) (ih.2.2.2.2.2.2.1 r0 M (ao_r ρ q1 66 (some q0)) _ h)
    · intro r0 M ρ y h
      replace h := ao_ifF h (by decide)
      replace h := ao_ifF h (by decide)
      replace h := ao_ifF h (by decide)
      replace h := ao_ifF h (by decide)
      replace h := ao_ifF h (by decide)
      replace h := ao_ifF h (by decide)
      replace h := ao_ifT h rfl
      obtain ⟨n146, hn146, h⟩ := ao_bind h
      obtain ⟨-, h⟩ := ao_some h
      exact ao_le_tr (ao_le_nw _ _ _ _ _) (ih.2.2.2.2.2.2.2.1 r0 n146 r0 (ao_zr M n146) (ao_nw ρ n146 0 (200 : Int32).toNatClampNeg (200 : Int32).toNatClampNeg) _ h)
    · intro r0 q0 q1 M ρ y h
      replace h := ao_ifF h (by decide)
      replace h := ao_ifF h (by decide)
      replace h := ao_ifF h (by decide)
      replace h := ao_ifF h (by decide)
      replace h := ao_ifF h (by decide)
      replace h := ao_ifF h (by decide)
      replace h := ao_ifF h (by decide)
      replace h := ao_ifT h rfl
      obtain ⟨-, h⟩ := ao_some h
      exact ao_le_tr (ao_le_r _ _ _ _) (ih.2.2.2.2.2.2.2.2.1 r0 M (ao_r ρ q1 67 (some q0)) _ h)
    · intro r0 M ρ y h
      replace h := ao_ifF h (by decide)
      replace h := ao_ifF h (by decide)
      replace h := ao_ifF h (by decide)
      replace h := ao_ifF h (by decide)
      replace h := ao_ifF h (by decide)
      replace h := ao_ifF h (by decide)
      replace h := ao_ifF h (by decide)
      replace h := ao_ifF h (by decide)
      replace h := ao_ifT h rfl
      obtain ⟨n149, hn149, h⟩ := ao_bind h
      obtain ⟨-, h⟩ := ao_some h
      exact ao_le_tr (ao_le_nw _ _ _ _ _) (ih.2.2.2.2.2.2.2.2.2 r0 n149 r0 (ao_zr M n149) (ao_nw ρ n149 0 (300 : Int32).toNatClampNeg (300 : Int32).toNatClampNeg) _ h)
    · intro r0 q0 q1 M ρ y h
      replace h := ao_ifF h (by decide)
      replace h := ao_ifF h (by decide)
      replace h := ao_ifF h (by decide)
      replace h := ao_ifF h (by decide)
      replace h := ao_ifF h (by decide)
      replace h := ao_ifF h (by decide)
      replace h := ao_ifF h (by decide)
      replace h := ao_ifF h (by decide)
      replace h := ao_ifF h (by decide)
      replace h := ao_ifT h rfl
      obtain ⟨-, h⟩ := ao_some h
      exact ao_le_tr (ao_le_r _ _ _ _) ((mX12_init_c10 n).1 r0 M (ao_r ρ q1 69 (some q0)) _ h)
set_option maxRecDepth 100000 in
set_option maxHeartbeats 4000000 in
theorem wX12_init_c9 {Γ : ao_C} (d : Nat) (hd : 5 ≤ d) (MC MS : Nat) : ∀ n : Nat, (∀ (r0 : Nat) (M : ao_M) (ρ : ao_H) (y : ao_S), fX12_init_c9 n 387 r0 0 0 M ρ = some y → ao_W Γ uX12_init (ao_rm d MC MS) (ao_Q Γ (ao_QV y) MC MS) (ao_dc ρ y.2) (ao_ds ρ y.2) 387 [some (.ref (Γ.2.2.2 + r0))] [] (M, ρ)) ∧ (∀ (r0 : Nat) (q0 : Nat) (q1 : Nat) (M : ao_M) (ρ : ao_H) (y : ao_S), fX12_init_c9 n 393 r0 q0 q1 M ρ = some y → ao_W Γ uX12_init (ao_rm d MC MS) (ao_Q Γ (ao_QV y) MC MS) (ao_dc ρ y.2) (ao_ds ρ y.2) 393 [some (.ref (Γ.2.2.2 + r0))] [.ref (Γ.2.2.2 + q0), .ref (Γ.2.2.2 + q1)] (M, ρ)) ∧ (∀ (r0 : Nat) (M : ao_M) (ρ : ao_H) (y : ao_S), fX12_init_c9 n 396 r0 0 0 M ρ = some y → ao_W Γ uX12_init (ao_rm d MC MS) (ao_Q Γ (ao_QV y) MC MS) (ao_dc ρ y.2) (ao_ds ρ y.2) 396 [some (.ref (Γ.2.2.2 + r0))] [] (M, ρ)) ∧ (∀ (r0 : Nat) (q0 : Nat) (q1 : Nat) (M : ao_M) (ρ : ao_H) (y : ao_S), fX12_init_c9 n 401 r0 q0 q1 M ρ = some y → ao_W Γ uX12_init (ao_rm d MC MS) (ao_Q Γ (ao_QV y) MC MS) (ao_dc ρ y.2) (ao_ds ρ y.2) 401 [some (.ref (Γ.2.2.2 + r0))] [.ref (Γ.2.2.2 + q0), .ref (Γ.2.2.2 + q1)] (M, ρ)) ∧ (∀ (r0 : Nat) (M : ao_M) (ρ : ao_H) (y : ao_S), fX12_init_c9 n 404 r0 0 0 M ρ = some y → ao_W Γ uX12_init (ao_rm d MC MS) (ao_Q Γ (ao_QV y) MC MS) (ao_dc ρ y.2) (ao_ds ρ y.2) 404 [some (.ref (Γ.2.2.2 + r0))] [] (M, ρ)) ∧ (∀ (r0 : Nat) (q0 : Nat) (q1 : Nat) (M : ao_M) (ρ : ao_H) (y : ao_S), fX12_init_c9 n 410 r0 q0 q1 M ρ = some y → ao_W Γ uX12_init (ao_rm d MC MS) (ao_Q Γ (ao_QV y) MC MS) (ao_dc ρ y.2) (ao_ds ρ y.2) 410 [some (.ref (Γ.2.2.2 + r0))] [.ref (Γ.2.2.2 + q0), .ref (Γ.2.2.2 + q1)] (M, ρ)) ∧ (∀ (r0 : Nat) (M : ao_M) (ρ : ao_H) (y : ao_S), fX12_init_c9 n 413 r0 0 0 M ρ = some y → ao_W Γ uX12_init (ao_rm d MC MS) (ao_Q Γ (ao_QV y) MC MS) (ao_dc ρ y.2) (ao_ds ρ y.2) 413 [some (.ref (Γ.2.2.2 + r0))] [] (M, ρ)) ∧ (∀ (r0 : Nat) (q0 : Nat) (q1 : Nat) (M : ao_M) (ρ : ao_H) (y : ao_S), fX12_init_c9 n 419 r0 q0 q1 M ρ = some y → ao_W Γ uX12_init (ao_rm d MC MS) (ao_Q Γ (ao_QV y) MC MS) (ao_dc ρ y.2) (ao_ds ρ y.2) 419 [some (.ref (Γ.2.2.2 + r0))] [.ref (Γ.2.2.2 + q0), .ref (Γ.2.2.2 + q1)] (M, ρ)) ∧ (∀ (r0 : Nat) (M : ao_M) (ρ : ao_H) (y : ao_S), fX12_init_c9 n 422 r0 0 0 M ρ = some y → ao_W Γ uX12_init (ao_rm d MC MS) (ao_Q Γ (ao_QV y) MC MS) (ao_dc ρ y.2) (ao_ds ρ y.2) 422 [some (.ref (Γ.2.2.2 + r0))] [] (M, ρ)) ∧ (∀ (r0 : Nat) (q0 : Nat) (q1 : Nat) (M : ao_M) (ρ : ao_H) (y : ao_S), fX12_init_c9 n 428 r0 q0 q1 M ρ = some y → ao_W Γ uX12_init (ao_rm d MC MS) (ao_Q Γ (ao_QV y) MC MS) (ao_dc ρ y.2) (ao_ds ρ y.2) 428 [some (.ref (Γ.2.2.2 + r0))] [.ref (Γ.2.2.2 + q0), .ref (Γ.2.2.2 + q1)] (M, ρ)) := by
  intro n
  induction n with
  | zero => exact ⟨fun _ _ _ _ h => ao_no h, fun _ _ _ _ _ _ h => ao_no h, fun _ _ _ _ h => ao_no h, fun _ _ _ _ _ _ h => ao_no h, fun _ _ _ _ h => ao_no h, fun _ _ _ _ _ _ h => ao_no h, fun _ _ _ _ h => ao_no h, fun _ _ _ _ _ _ h => ao_no h, fun _ _ _ _ h => ao_no h, fun _ _ _ _ _ _ h => ao_no h⟩
  | succ n ih =>
    refine ⟨?_, ?_, ?_, ?_, ?_, ?_, ?_, ?_, ?_, ?_⟩
    · intro r0 M ρ y h
      replace h := ao_ifT h rfl
      refine ao_aload_n 0 dX12_init_387 rfl rfl ?_
      refine ao_sipush (v := 14400) dX12_init_388 (by decide) ?_
      obtain ⟨n137, hn137, h⟩ := ao_bind h
      obtain ⟨hb138, h⟩ := ao_some h
      refine ba_newa n137 0 dX12_init_391 rfl (by decide) hn137 lna_0 hb138.1 hb138.2 (ao_dc_nw ((mX12_init_c9 n).2.1 r0 n137 r0 (ao_zr M n137) (ao_nw ρ n137 0 (14400 : Int32).toNatClampNeg (14400 : Int32).toNatClampNeg) _ h)) ?_
      exact ih.2.1 r0 n137 r0 (ao_zr M n137) (ao_nw ρ n137 0 (14400 : Int32).toNatClampNeg (14400 : Int32).toNatClampNeg) _ h
    · intro r0 q0 q1 M ρ y h
      replace h := ao_ifF h (by decide)
      replace h := ao_ifT h rfl
      obtain ⟨hk139, h⟩ := ao_some h
      refine ba_putR q1 12 61 (q := (RX12, TX12, 83)) dX12_init_393 rfl hk139 (Nat.le_of_ble_eq_true rfl) lf_X12_284 (Or.inr ⟨rfl, rfl⟩) rfl rfl rfl ?_
      exact ih.2.2.1 r0 M (ao_r ρ q1 61 (some q0)) _ h
    · intro r0 M ρ y h
      replace h := ao_ifF h (by decide)
      replace h := ao_ifF h (by decide)
      replace h := ao_ifT h rfl
      refine ao_aload_n 0 dX12_init_396 rfl rfl ?_
      refine ao_bipush (v := 72) dX12_init_397 (by decide) ?_
      obtain ⟨n140, hn140, h⟩ := ao_bind h
      obtain ⟨hb141, h⟩ := ao_some h
      refine ba_newa n140 0 dX12_init_399 rfl (by decide) hn140 lna_0 hb141.1 hb141.2 (ao_dc_nw ((mX12_init_c9 n).2.2.2.1 r0 n140 r0 (ao_zr M n140) (ao_nw ρ n140 0 (72 : Int32).toNatClampNeg (72 : Int32).toNatClampNeg) _ h)) ?_
      exact ih.2.2.2.1 r0 n140 r0 (ao_zr M n140) (ao_nw ρ n140 0 (72 : Int32).toNatClampNeg (72 : Int32).toNatClampNeg) _ h
    · intro r0 q0 q1 M ρ y h
      replace h := ao_ifF h (by decide)
      replace h := ao_ifF h (by decide)
      replace h := ao_ifF h (by decide)
      replace h := ao_ifT h rfl
      obtain ⟨hk142, h⟩ := ao_some h
      refine ba_putR q1 12 62 (q := (RX12, TX12, 83)) dX12_init_401 rfl hk142 (Nat.le_of_ble_eq_true rfl) lf_X12_287 (Or.inr ⟨rfl, rfl⟩) rfl rfl rfl ?_
      exact ih.2.2.2.2.1 r0 M (ao_r ρ q1 62 (some q0)) _ h
    · intro r0 M ρ y h
      replace h := ao_ifF h (by decide)
      replace h := ao_ifF h (by decide)
      replace h := ao_ifF h (by decide)
      replace h := ao_ifF h (by decide)
      replace h := ao_ifT h rfl
      refine ao_aload_n 0 dX12_init_404 rfl rfl ?_
      refine ao_sipush (v := 200) dX12_init_405 (by decide) ?_
      obtain ⟨n143, hn143, h⟩ := ao_bind h
      obtain ⟨hb144, h⟩ := ao_some h
      refine ba_newa n143 0 dX12_init_408 rfl (by decide) hn143 lna_0 hb144.1 hb144.2 (ao_dc_nw ((mX12_init_c9 n).2.2.2.2.2.1 r0 n143 r0 (ao_zr M n143) (ao_nw ρ n143 0 (200 : Int32).toNatClampNeg (200 : Int32).toNatClampNeg) _ h)) ?_
      exact ih.2.2.2.2.2.1 r0 n143 r0 (ao_zr M n143) (ao_nw ρ n143 0 (200 : Int32).toNatClampNeg (200 : Int32).toNatClampNeg) _ h
    · intro r0 q0 q1 M ρ y h
      replace h := ao_ifF h (by decide)
      replace h := ao_ifF h (by decide)
      replace h := ao_ifF h (by decide)
      replace h := ao_ifF h (by decide)
      replace h := ao_ifF h (by decide)
      replace h := ao_ifT h rfl
      obtain ⟨hk145, h⟩ := ao_some h
      refine ba_putR q1 12 66 (q := (RX12, TX12, 83)) dX12_init_410 rfl hk145 (Nat.le_of_ble_eq_true rfl) lf_X12_290 (Or.inr ⟨rfl, rfl⟩) rfl rfl rfl ?_
      exact ih.2.2.2.2.2.2.1 r0 M (ao_r ρ q1 66 (some q0)) _ h
    · intro r0 M ρ y h
      replace h := ao_ifF h (by decide)
      replace h := ao_ifF h (by decide)
      replace h := ao_ifF h (by decide)
      replace h := ao_ifF h (by decide)
      replace h := ao_ifF h (by decide)
      replace h := ao_ifF h (by decide)
      replace h := ao_ifT h rfl
      refine ao_aload_n 0 dX12_init_413 rfl rfl ?_
      refine ao_sipush (v := 200) dX12_init_414 (by decide) ?_
      obtain ⟨n146, hn146, h⟩ := ao_bind h
      obtain ⟨hb147, h⟩ := ao_some h
      refine ba_newa n146 0 dX12_init_417 rfl (by decide) hn146 lna_0 hb147.1 hb147.2 (ao_dc_nw ((mX12_init_c9 n).2.2.2.2.2.2.2.1 r0 n146 r0 (ao_zr M n146) (ao_nw ρ n146 0 (200 : Int32).toNatClampNeg (200 : Int32).toNatClampNeg) _ h)) ?_
      exact ih.2.2.2.2.2.2.2.1 r0 n146 r0 (ao_zr M n146) (ao_nw ρ n146 0 (200 : Int32).toNatClampNeg (200 : Int32).toNatClampNeg) _ h
    · intro r0 q0 q1 M ρ y h
      replace h := ao_ifF h (by decide)
      replace h := ao_ifF h (by decide)
      replace h := ao_ifF h (by decide)
      replace h := ao_ifF h (by decide)
      replace h := ao_ifF h (by decide)
      replace h := ao_ifF h (by decide)
      replace h := ao_ifF h (by decide)
      replace h := ao_ifT h rfl
      obtain ⟨hk148, h⟩ := ao_some h
      refine ba_putR q1 12 67 (q := (RX12, TX12, 83)) dX12_init_419 rfl hk148 (Nat.le_of_ble_eq_true rfl) lf_X12_293 (Or.inr ⟨rfl, rfl⟩) rfl rfl rfl ?_
      exact ih.2.2.2.2.2.2.2.2.1 r0 M (ao_r ρ q1 67 (some q0)) _ h
    · intro r0 M ρ y h
      replace h := ao_ifF h (by decide)
      replace h := ao_ifF h (by decide)
      replace h := ao_ifF h (by decide)
      replace h := ao_ifF h (by decide)
      replace h := ao_ifF h (by decide)
      replace h := ao_ifF h (by decide)
      replace h := ao_ifF h (by decide)
      replace h := ao_ifF h (by decide)
      replace h := ao_ifT h rfl
      refine ao_aload_n 0 dX12_init_422 rfl rfl ?_
      refine ao_sipush (v := 300) dX12_init_423 (by decide) ?_
      obtain ⟨n149, hn149, h⟩ := ao_bind h
      obtain ⟨hb150, h⟩ := ao_some h
      refine ba_newa n149 0 dX12_init_426 rfl (by decide) hn149 lna_0 hb150.1 hb150.2 (ao_dc_nw ((mX12_init_c9 n).2.2.2.2.2.2.2.2.2 r0 n149 r0 (ao_zr M n149) (ao_nw ρ n149 0 (300 : Int32).toNatClampNeg (300 : Int32).toNatClampNeg) _ h)) ?_
      exact ih.2.2.2.2.2.2.2.2.2 r0 n149 r0 (ao_zr M n149) (ao_nw ρ n149 0 (300 : Int32).toNatClampNeg (300 : Int32).toNatClampNeg) _ h
    · intro r0 q0 q1 M ρ y h
      replace h := ao_ifF h (by decide)
      replace h := ao_ifF h (by decide)
      replace h := ao_ifF h (by decide)
      replace h := ao_ifF h (by decide)
      replace h := ao_ifF h (by decide)
      replace h := ao_ifF h (by decide)
      replace h := ao_ifF h (by decide)
      replace h := ao_ifF h (by decide)
      replace h := ao_ifF h (by decide)
      replace h := ao_ifT h rfl
      obtain ⟨hk151, h⟩ := ao_some h
      refine ba_putR q1 12 69 (q := (RX12, TX12, 83)) dX12_init_428 rfl hk151 (Nat.le_of_ble_eq_true rfl) lf_X12_296 (Or.inr ⟨rfl, rfl⟩) rfl rfl rfl ?_
      exact (wX12_init_c10 d hd MC MS n).1 r0 M (ao_r ρ q1 69 (some q0)) _ h
def fX12_init_c8 : Nat → Nat → Nat → Nat → Nat →  ao_M → ao_H → Option (ao_S)
  | 0, _, _, _, _, _, _ => none
  | n + 1, pc, r0, q0, q1, M, ρ =>
    if pc = 342 then
      (ρ.2.2.2.1).bind fun n122 =>
      if ¬ (1872 : Int32) < 0 ∧ (1872 : Int32).toNatClampNeg * 8 ≤ 536870912 then
      fX12_init_c8 n 348 r0 n122 r0 (ao_zr M n122) (ao_nw ρ n122 2 (1872 : Int32).toNatClampNeg (1872 : Int32).toNatClampNeg)
      else none
    else if pc = 348 then
      if ρ.2.1 q1 = 22 then
      fX12_init_c8 n 351 r0 0 0 M (ao_r ρ q1 56 (some q0))
      else none
    else if pc = 351 then
      (ρ.2.2.2.1).bind fun n125 =>
      if ¬ (1872 : Int32) < 0 ∧ (1872 : Int32).toNatClampNeg * 8 ≤ 536870912 then
      fX12_init_c8 n 357 r0 n125 r0 (ao_zr M n125) (ao_nw ρ n125 0 (1872 : Int32).toNatClampNeg (1872 : Int32).toNatClampNeg)
      else none
    else if pc = 357 then
      if ρ.2.1 q1 = 22 then
      fX12_init_c8 n 360 r0 0 0 M (ao_r ρ q1 57 (some q0))
      else none
    else if pc = 360 then
      (ρ.2.2.2.1).bind fun n128 =>
      if ¬ (1872 : Int32) < 0 ∧ (1872 : Int32).toNatClampNeg * 8 ≤ 536870912 then
      fX12_init_c8 n 366 r0 n128 r0 (ao_zr M n128) (ao_nw ρ n128 0 (1872 : Int32).toNatClampNeg (1872 : Int32).toNatClampNeg)
      else none
    else if pc = 366 then
      if ρ.2.1 q1 = 22 then
      fX12_init_c8 n 369 r0 0 0 M (ao_r ρ q1 58 (some q0))
      else none
    else if pc = 369 then
      (ρ.2.2.2.1).bind fun n131 =>
      if ¬ (1872 : Int32) < 0 ∧ (1872 : Int32).toNatClampNeg * 8 ≤ 536870912 then
      fX12_init_c8 n 375 r0 n131 r0 (ao_zr M n131) (ao_nw ρ n131 0 (1872 : Int32).toNatClampNeg (1872 : Int32).toNatClampNeg)
      else none
    else if pc = 375 then
      if ρ.2.1 q1 = 22 then
      fX12_init_c8 n 378 r0 0 0 M (ao_r ρ q1 59 (some q0))
      else none
    else if pc = 378 then
      (ρ.2.2.2.1).bind fun n134 =>
      if ¬ (1872 : Int32) < 0 ∧ (1872 : Int32).toNatClampNeg * 8 ≤ 536870912 then
      fX12_init_c8 n 384 r0 n134 r0 (ao_zr M n134) (ao_nw ρ n134 0 (1872 : Int32).toNatClampNeg (1872 : Int32).toNatClampNeg)
      else none
    else if pc = 384 then
      if ρ.2.1 q1 = 22 then
      fX12_init_c9 n 387 r0 0 0 M (ao_r ρ q1 60 (some q0))
      else none
    else none
set_option maxRecDepth 100000 in
set_option maxHeartbeats 4000000 in
theorem mX12_init_c8 : ∀ n : Nat, (∀ (r0 : Nat) (M : ao_M) (ρ : ao_H) (y : ao_S), fX12_init_c8 n 342 r0 0 0 M ρ = some y → ao_le ρ y.2) ∧ (∀ (r0 : Nat) (q0 : Nat) (q1 : Nat) (M : ao_M) (ρ : ao_H) (y : ao_S), fX12_init_c8 n 348 r0 q0 q1 M ρ = some y → ao_le ρ y.2) ∧ (∀ (r0 : Nat) (M : ao_M) (ρ : ao_H) (y : ao_S), fX12_init_c8 n 351 r0 0 0 M ρ = some y → ao_le ρ y.2) ∧ (∀ (r0 : Nat) (q0 : Nat) (q1 : Nat) (M : ao_M) (ρ : ao_H) (y : ao_S), fX12_init_c8 n 357 r0 q0 q1 M ρ = some y → ao_le ρ y.2) ∧ (∀ (r0 : Nat) (M : ao_M) (ρ : ao_H) (y : ao_S), fX12_init_c8 n 360 r0 0 0 M ρ = some y → ao_le ρ y.2) ∧ (∀ (r0 : Nat) (q0 : Nat) (q1 : Nat) (M : ao_M) (ρ : ao_H) (y : ao_S), fX12_init_c8 n 366 r0 q0 q1 M ρ = some y → ao_le ρ y.2) ∧ (∀ (r0 : Nat) (M : ao_M) (ρ : ao_H) (y : ao_S), fX12_init_c8 n 369 r0 0 0 M ρ = some y → ao_le ρ y.2) ∧ (∀ (r0 : Nat) (q0 : Nat) (q1 : Nat) (M : ao_M) (ρ : ao_H) (y : ao_S), fX12_init_c8 n 375 r0 q0 q1 M ρ = some y → ao_le ρ y.2) ∧ (∀ (r0 : Nat) (M : ao_M) (ρ : ao_H) (y : ao_S), fX12_init_c8 n 378 r0 0 0 M ρ = some y → ao_le ρ y.2) ∧ (∀ (r0 : Nat) (q0 : Nat) (q1 : Nat) (M : ao_M) (ρ : ao_H) (y : ao_S), fX12_init_c8 n 384 r0 q0 q1 M ρ = some y → ao_le ρ y.2) := by
  intro n
  induction n with
  | zero => exact ⟨fun _ _ _ _ h => ao_no h, fun _ _ _ _ _ _ h => ao_no h, fun _ _ _ _ h => ao_no h, fun _ _ _ _ _ _ h => ao_no h, fun _ _ _ _ h => ao_no h, fun _ _ _ _ _ _ h => ao_no h, fun _ _ _ _ h => ao_no h, fun _ _ _ _ _ _ h => ao_no h, fun _ _ _ _ h => ao_no h, fun _ _ _ _ _ _ h => ao_no h⟩
  | succ n ih =>
    refine ⟨?_, ?_, ?_, ?_, ?_, ?_, ?_, ?_, ?_, ?_⟩
    · intro r0 M ρ y h
      replace h := ao_ifT h rfl
      obtain ⟨n122, hn122, h⟩ := ao_bind h
      obtain ⟨-, h⟩ := ao_some h
      exact ao_le_tr (ao_le_nw _ _ _ _ _) (ih.2.1 r0 n122 r0 (ao_zr M n122) (ao_nw ρ n122 2 (1872 : Int32).toNatClampNeg (1872 : Int32).toNatClampNeg) _ h)
    · intro r0 q0 q1 M ρ y h
      replace h := ao_ifF h (by decide)
      replace h := ao_ifT h rfl
      obtain ⟨-, h⟩ := ao_some h
      exact ao_le_tr (ao_le_r _ _ _ _) (ih.2.2.1 r0 M (ao_r ρ q1 56 (some q0)) _ h)
    · intro r0 M ρ y h
      replace h := ao_ifF h (by decide)
      replace h := ao_ifF h (by decide)
      replace h := ao_ifT h rfl
      obtain ⟨n125, hn125, h⟩ := ao_bind h
      obtain ⟨-, h⟩ := ao_some h
      exact ao_le_tr (ao_le_nw _ _ _ _ _) (ih.2.2.2.1 r0 n125 r0 (ao_zr M n125) (ao_nw ρ n125 0 (1872 : Int32).toNatClampNeg (1872 : Int32).toNatClampNeg) _ h)
    · intro r0 q0 q1 M ρ y h
      replace h := ao_ifF h (by decide)
      replace h := ao_ifF h (by decide)
      replace h := ao_ifF h (by decide)
      replace h := ao_ifT h rfl
      obtain ⟨-, h⟩ := ao_some h
      exact ao_le_tr (ao_le_r _ _ _ _) (ih.2.2.2.2.1 r0 M (ao_r ρ q1 57 (some q0)) _ h)
    · intro r0 M ρ y h
      replace h := ao_ifF h (by decide)
      replace h := ao_ifF h (by decide)
      replace h := ao_ifF h (by decide)
      replace h := ao_ifF h (by decide)
      replace h := ao_ifT h rfl
      obtain ⟨n128, hn128, h⟩ := ao_bind h
      obtain ⟨-, h⟩ := ao_some h
      exact ao_le_tr (ao_le_nw _ _ _ _ _) (ih.2.2.2.2.2.1 r0 n128 r0 (ao_zr M n128) (ao_nw ρ n128 0 (1872 : Int32).toNatClampNeg (1872 : Int32).toNatClampNeg) _ h)
    · intro r0 q0 q1 M ρ y h
      replace h := ao_ifF h (by decide)
      replace h := ao_ifF h (by decide)
      replace h := ao_ifF h (by decide)
      replace h := ao_ifF h (by decide)
      replace h := ao_ifF h (by decide)
      replace h := ao_ifT h rfl
      obtain ⟨-, h⟩ := ao_some h
      exact ao_le_tr (ao_le_r _ _ _ _) (ih.2.2.2.2.2.2.1 r0 M (ao_r ρ q1 58 (some q0)) _ h)
    · intro r0 M ρ y h
      replace h := ao_ifF h (by decide)
      replace h := ao_ifF h (by decide)
      replace h := ao_ifF h (by decide)
      replace h := ao_ifF h (by decide)
      replace h := ao_ifF h (by decide)
      replace h := ao_ifF h (by decide)
      replace h := ao_ifT h rfl
      obtain ⟨n131, hn131, h⟩ := ao_bind h
      obtain ⟨-, h⟩ := ao_some h
      exact ao_le_tr (ao_le_nw _ _ _ _ _) (ih.2.2.2.2.2.2.2.1 r0 n131 r0 (ao_zr M n131) (ao_nw ρ n131 0 (1872 : Int32).toNatClampNeg (1872 : Int32).toNatClampNeg) _ h)
    · intro r0 q0 q1 M ρ y h
      replace h := ao_ifF h (by decide)
      replace h := ao_ifF h (by decide)
      replace h := ao_ifF h (by decide)
      replace h := ao_ifF h (by decide)
      replace h := ao_ifF h (by decide)
      replace h := ao_ifF h (by decide)
      replace h := ao_ifF h (by decide)
      replace h := ao_ifT h rfl
      obtain ⟨-, h⟩ := ao_some h
      exact ao_le_tr (ao_le_r _ _ _ _) (ih.2.2.2.2.2.2.2.2.1 r0 M (ao_r ρ q1 59 (some q0)) _ h)
    · intro r0 M ρ y h
      replace h := ao_ifF h (by decide)
      replace h := ao_ifF h (by decide)
      replace h := ao_ifF h (by decide)
      replace h := ao_ifF h (by decide)
      replace h := ao_ifF h (by decide)
      replace h := ao_ifF h (by decide)
      replace h := ao_ifF h (by decide)
      replace h := ao_ifF h (by decide)
      replace h := ao_ifT h rfl
      obtain ⟨n134, hn134, h⟩ := ao_bind h
      obtain ⟨-, h⟩ := ao_some h
      exact ao_le_tr (ao_le_nw _ _ _ _ _) (ih.2.2.2.2.2.2.2.2.2 r0 n134 r0 (ao_zr M n134) (ao_nw ρ n134 0 (1872 : Int32).toNatClampNeg (1872 : Int32).toNatClampNeg) _ h)
    · intro r0 q0 q1 M ρ y h
      replace h := ao_ifF h (by decide)
      replace h := ao_ifF h (by decide)
      replace h := ao_ifF h (by decide)
      replace h := ao_ifF h (by decide)
      replace h := ao_ifF h (by decide)
      replace h := ao_ifF h (by decide)
      replace h := ao_ifF h (by decide)
      replace h := ao_ifF h (by decide)
      replace h := ao_ifF h (by decide)
      replace h := ao_ifT h rfl
      obtain ⟨-, h⟩ := ao_some h
      exact ao_le_tr (ao_le_r _ _ _ _) ((mX12_init_c9 n).1 r0 M (ao_r ρ q1 60 (some q0)) _ h)
set_option maxRecDepth 100000 in
set_option maxHeartbeats 4000000 in
theorem wX12_init_c8 {Γ : ao_C} (d : Nat) (hd : 5 ≤ d) (MC MS : Nat) : ∀ n : Nat, (∀ (r0 : Nat) (M : ao_M) (ρ : ao_H) (y : ao_S), fX12_init_c8 n 342 r0 0 0 M ρ = some y → ao_W Γ uX12_init (ao_rm d MC MS) (ao_Q Γ (ao_QV y) MC MS) (ao_dc ρ y.2) (ao_ds ρ y.2) 342 [some (.ref (Γ.2.2.2 + r0))] [] (M, ρ)) ∧ (∀ (r0 : Nat) (q0 : Nat) (q1 : Nat) (M : ao_M) (ρ : ao_H) (y : ao_S), fX12_init_c8 n 348 r0 q0 q1 M ρ = some y → ao_W Γ uX12_init (ao_rm d MC MS) (ao_Q Γ (ao_QV y) MC MS) (ao_dc ρ y.2) (ao_ds ρ y.2) 348 [some (.ref (Γ.2.2.2 + r0))] [.ref (Γ.2.2.2 + q0), .ref (Γ.2.2.2 + q1)] (M, ρ)) ∧ (∀ (r0 : Nat) (M : ao_M) (ρ : ao_H) (y : ao_S), fX12_init_c8 n 351 r0 0 0 M ρ = some y → ao_W Γ uX12_init (ao_rm d MC MS) (ao_Q Γ (ao_QV y) MC MS) (ao_dc ρ y.2) (ao_ds ρ y.2) 351 [some (.ref (Γ.2.2.2 + r0))] [] (M, ρ)) ∧ (∀ (r0 : Nat) (q0 : Nat) (q1 : Nat) (M : ao_M) (ρ : ao_H) (y : ao_S), fX12_init_c8 n 357 r0 q0 q1 M ρ = some y → ao_W Γ uX12_init (ao_rm d MC MS) (ao_Q Γ (ao_QV y) MC MS) (ao_dc ρ y.2) (ao_ds ρ y.2) 357 [some (.ref (Γ.2.2.2 + r0))] [.ref (Γ.2.2.2 + q0), .ref (Γ.2.2.2 + q1)] (M, ρ)) ∧ (∀ (r0 : Nat) (M : ao_M) (ρ : ao_H) (y : ao_S), fX12_init_c8 n 360 r0 0 0 M ρ = some y → ao_W Γ uX12_init (ao_rm d MC MS) (ao_Q Γ (ao_QV y) MC MS) (ao_dc ρ y.2) (ao_ds ρ y.2) 360 [some (.ref (Γ.2.2.2 + r0))] [] (M, ρ)) ∧ (∀ (r0 : Nat) (q0 : Nat) (q1 : Nat) (M : ao_M) (ρ : ao_H) (y : ao_S), fX12_init_c8 n 366 r0 q0 q1 M ρ = some y → ao_W Γ uX12_init (ao_rm d MC MS) (ao_Q Γ (ao_QV y) MC MS) (ao_dc ρ y.2) (ao_ds ρ y.2) 366 [some (.ref (Γ.2.2.2 + r0))] [.ref (Γ.2.2.2 + q0), .ref (Γ.2.2.2 + q1)] (M, ρ)) ∧ (∀ (r0 : Nat) (M : ao_M) (ρ : ao_H) (y : ao_S), fX12_init_c8 n 369 r0 0 0 M ρ = some y → ao_W Γ uX12_init (ao_rm d MC MS) (ao_Q Γ (ao_QV y) MC MS) (ao_dc ρ y.2) (ao_ds ρ y.2) 369 [some (.ref (Γ.2.2.2 + r0))] [] (M, ρ)) ∧ (∀ (r0 : Nat) (q0 : Nat) (q1 : Nat) (M : ao_M) (ρ : ao_H) (y : ao_S), fX12_init_c8 n 375 r0 q0 q1 M ρ = some y → ao_W Γ uX12_init (ao_rm d MC MS) (ao_Q Γ (ao_QV y) MC MS) (ao_dc ρ y.2) (ao_ds ρ y.2) 375 [some (.ref (Γ.2.2.2 + r0))] [.ref (Γ.2.2.2 + q0), .ref (Γ.2.2.2 + q1)] (M, ρ)) ∧ (∀ (r0 : Nat) (M : ao_M) (ρ : ao_H) (y : ao_S), fX12_init_c8 n 378 r0 0 0 M ρ = some y → ao_W Γ uX12_init (ao_rm d MC MS) (ao_Q Γ (ao_QV y) MC MS) (ao_dc ρ y.2) (ao_ds ρ y.2) 378 [some (.ref (Γ.2.2.2 + r0))] [] (M, ρ)) ∧ (∀ (r0 : Nat) (q0 : Nat) (q1 : Nat) (M : ao_M) (ρ : ao_H) (y : ao_S), fX12_init_c8 n 384 r0 q0 q1 M ρ = some y → ao_W Γ uX12_init (ao_rm d MC MS) (ao_Q Γ (ao_QV y) MC MS) (ao_dc ρ y.2) (ao_ds ρ y.2) 384 [some (.ref (Γ.2.2.2 + r0))] [.ref (Γ.2.2.2 + q0), .ref (Γ.2.2.2 + q1)] (M, ρ)) := by
  intro n
  induction n with
  | zero => exact ⟨fun _ _ _ _ h => ao_no h, fun _ _ _ _ _ _ h => ao_no h, fun _ _ _ _ h => ao_no h, fun _ _ _ _ _ _ h => ao_no h, fun _ _ _ _ h => ao_no h, fun _ _ _ _ _ _ h => ao_no h, fun _ _ _ _ h => ao_no h, fun _ _ _ _ _ _ h => ao_no h, fun _ _ _ _ h => ao_no h, fun _ _ _ _ _ _ h => ao_no h⟩
  | succ n ih =>
    refine ⟨?_, ?_, ?_, ?_, ?_, ?_, ?_, ?_, ?_, ?_⟩
    · intro r0 M ρ y h
      replace h := ao_ifT h rfl
      refine ao_aload_n 0 dX12_init_342 rfl rfl ?_
      refine ao_sipush (v := 1872) dX12_init_343 (by decide) ?_
      obtain ⟨n122, hn122, h⟩ := ao_bind h
      obtain ⟨hb123, h⟩ := ao_some h
      refine ba_newa n122 2 dX12_init_346 rfl (by decide) hn122 lna_2 hb123.1 hb123.2 (ao_dc_nw ((mX12_init_c8 n).2.1 r0 n122 r0 (ao_zr M n122) (ao_nw ρ n122 2 (1872 : Int32).toNatClampNeg (1872 : Int32).toNatClampNeg) _ h)) ?_
      exact ih.2.1 r0 n122 r0 (ao_zr M n122) (ao_nw ρ n122 2 (1872 : Int32).toNatClampNeg (1872 : Int32).toNatClampNeg) _ h
    · intro r0 q0 q1 M ρ y h
      replace h := ao_ifF h (by decide)
      replace h := ao_ifT h rfl
      obtain ⟨hk124, h⟩ := ao_some h
      refine ba_putR q1 12 56 (q := (RX12, TX12, 83)) dX12_init_348 rfl hk124 (Nat.le_of_ble_eq_true rfl) lf_X12_269 (Or.inr ⟨rfl, rfl⟩) rfl rfl rfl ?_
      exact ih.2.2.1 r0 M (ao_r ρ q1 56 (some q0)) _ h
    · intro r0 M ρ y h
      replace h := ao_ifF h (by decide)
      replace h := ao_ifF h (by decide)
      replace h := ao_ifT h rfl
      refine ao_aload_n 0 dX12_init_351 rfl rfl ?_
      refine ao_sipush (v := 1872) dX12_init_352 (by decide) ?_
      obtain ⟨n125, hn125, h⟩ := ao_bind h
      obtain ⟨hb126, h⟩ := ao_some h
      refine ba_newa n125 0 dX12_init_355 rfl (by decide) hn125 lna_0 hb126.1 hb126.2 (ao_dc_nw ((mX12_init_c8 n).2.2.2.1 r0 n125 r0 (ao_zr M n125) (ao_nw ρ n125 0 (1872 : Int32).toNatClampNeg (1872 : Int32).toNatClampNeg) _ h)) ?_
      exact ih.2.2.2.1 r0 n125 r0 (ao_zr M n125) (ao_nw ρ n125 0 (1872 : Int32).toNatClampNeg (1872 : Int32).toNatClampNeg) _ h
    · intro r0 q0 q1 M ρ y h
      replace h := ao_ifF h (by decide)
      replace h := ao_ifF h (by decide)
      replace h := ao_ifF h (by decide)
      replace h := ao_ifT h rfl
      obtain ⟨hk127, h⟩ := ao_some h
      refine ba_putR q1 12 57 (q := (RX12, TX12, 83)) dX12_init_357 rfl hk127 (Nat.le_of_ble_eq_true rfl) lf_X12_272 (Or.inr ⟨rfl, rfl⟩) rfl rfl rfl ?_
      exact ih.2.2.2.2.1 r0 M (ao_r ρ q1 57 (some q0)) _ h
    · intro r0 M ρ y h
      replace h := ao_ifF h (by decide)
      replace h := ao_ifF h (by decide)
      replace h := ao_ifF h (by decide)
      replace h := ao_ifF h (by decide)
      replace h := ao_ifT h rfl
      refine ao_aload_n 0 dX12_init_360 rfl rfl ?_
      refine ao_sipush (v := 1872) dX12_init_361 (by decide) ?_
      obtain ⟨n128, hn128, h⟩ := ao_bind h
      obtain ⟨hb129, h⟩ := ao_some h
      refine ba_newa n128 0 dX12_init_364 rfl (by decide) hn128 lna_0 hb129.1 hb129.2 (ao_dc_nw ((mX12_init_c8 n).2.2.2.2.2.1 r0 n128 r0 (ao_zr M n128) (ao_nw ρ n128 0 (1872 : Int32).toNatClampNeg (1872 : Int32).toNatClampNeg) _ h)) ?_
      exact ih.2.2.2.2.2.1 r0 n128 r0 (ao_zr M n128) (ao_nw ρ n128 0 (1872 : Int32).toNatClampNeg (1872 : Int32).toNatClampNeg) _ h
    · intro r0 q0 q1 M ρ y h
      replace h := ao_ifF h (by decide)
      replace h := ao_ifF h (by decide)
      replace h := ao_ifF h (by decide)
      replace h := ao_ifF h (by decide)
      replace h := ao_ifF h (by decide)
      replace h := ao_ifT h rfl
      obtain ⟨hk130, h⟩ := ao_some h
      refine ba_putR q1 12 58 (q := (RX12, TX12, 83)) dX12_init_366 rfl hk130 (Nat.le_of_ble_eq_true rfl) lf_X12_275 (Or.inr ⟨rfl, rfl⟩) rfl rfl rfl ?_
      exact ih.2.2.2.2.2.2.1 r0 M (ao_r ρ q1 58 (some q0)) _ h
    · intro r0 M ρ y h
      replace h := ao_ifF h (by decide)
      replace h := ao_ifF h (by decide)
      replace h := ao_ifF h (by decide)
      replace h := ao_ifF h (by decide)
      replace h := ao_ifF h (by decide)
      replace h := ao_ifF h (by decide)
      replace h := ao_ifT h rfl
      refine ao_aload_n 0 dX12_init_369 rfl rfl ?_
      refine ao_sipush (v := 1872) dX12_init_370 (by decide) ?_
      obtain ⟨n131, hn131, h⟩ := ao_bind h
      obtain ⟨hb132, h⟩ := ao_some h
      refine ba_newa n131 0 dX12_init_373 rfl (by decide) hn131 lna_0 hb132.1 hb132.2 (ao_dc_nw ((mX12_init_c8 n).2.2.2.2.2.2.2.1 r0 n131 r0 (ao_zr M n131) (ao_nw ρ n131 0 (1872 : Int32).toNatClampNeg (1872 : Int32).toNatClampNeg) _ h)) ?_
      exact ih.2.2.2.2.2.2.2.1 r0 n131 r0 (ao_zr M n131) (ao_nw ρ n131 0 (1872 : Int32).toNatClampNeg (1872 : Int32).toNatClampNeg) _ h
    · intro r0 q0 q1 M ρ y h
      replace h := ao_ifF h (by decide)
      replace h := ao_ifF h (by decide)
      replace h := ao_ifF h (by decide)
      replace h := ao_ifF h (by decide)
      replace h := ao_ifF h (by decide)
      replace h := ao_ifF h (by decide)
      replace h := ao_ifF h (by decide)
      replace h := ao_ifT h rfl
      obtain ⟨hk133, h⟩ := ao_some h
      refine ba_putR q1 12 59 (q := (RX12, TX12, 83)) dX12_init_375 rfl hk133 (Nat.le_of_ble_eq_true rfl) lf_X12_278 (Or.inr ⟨rfl, rfl⟩) rfl rfl rfl ?_
      exact ih.2.2.2.2.2.2.2.2.1 r0 M (ao_r ρ q1 59 (some q0)) _ h
    · intro r0 M ρ y h
      replace h := ao_ifF h (by decide)
      replace h := ao_ifF h (by decide)
      replace h := ao_ifF h (by decide)
      replace h := ao_ifF h (by decide)
      replace h := ao_ifF h (by decide)
      replace h := ao_ifF h (by decide)
      replace h := ao_ifF h (by decide)
      replace h := ao_ifF h (by decide)
      replace h := ao_ifT h rfl
      refine ao_aload_n 0 dX12_init_378 rfl rfl ?_
      refine ao_sipush (v := 1872) dX12_init_379 (by decide) ?_
      obtain ⟨n134, hn134, h⟩ := ao_bind h
      obtain ⟨hb135, h⟩ := ao_some h
      refine ba_newa n134 0 dX12_init_382 rfl (by decide) hn134 lna_0 hb135.1 hb135.2 (ao_dc_nw ((mX12_init_c8 n).2.2.2.2.2.2.2.2.2 r0 n134 r0 (ao_zr M n134) (ao_nw ρ n134 0 (1872 : Int32).toNatClampNeg (1872 : Int32).toNatClampNeg) _ h)) ?_
      exact ih.2.2.2.2.2.2.2.2.2 r0 n134 r0 (ao_zr M n134) (ao_nw ρ n134 0 (1872 : Int32).toNatClampNeg (1872 : Int32).toNatClampNeg) _ h
    · intro r0 q0 q1 M ρ y h
      replace h := ao_ifF h (by decide)
      replace h := ao_ifF h (by decide)
      replace h := ao_ifF h (by decide)
      replace h := ao_ifF h (by decide)
      replace h := ao_ifF h (by decide)
      replace h := ao_ifF h (by decide)
      replace h := ao_ifF h (by decide)
      replace h := ao_ifF h (by decide)
      replace h := ao_ifF h (by decide)
      replace h := ao_ifT h rfl
      obtain ⟨hk136, h⟩ := ao_some h
      refine ba_putR q1 12 60 (q := (RX12, TX12, 83)) dX12_init_384 rfl hk136 (Nat.le_of_ble_eq_true rfl) lf_X12_281 (Or.inr ⟨rfl, rfl⟩) rfl rfl rfl ?_
      exact (wX12_init_c9 d hd MC MS n).1 r0 M (ao_r ρ q1 60 (some q0)) _ h
def fX12_init_c7 : Nat → Nat → Nat → Nat → Nat →  ao_M → ao_H → Option (ao_S)
  | 0, _, _, _, _, _, _ => none
  | n + 1, pc, r0, q0, q1, M, ρ =>
    if pc = 300 then
      (ρ.2.2.2.1).bind fun n107 =>
      if ¬ (72 : Int32) < 0 ∧ (72 : Int32).toNatClampNeg * 8 ≤ 536870912 then
      fX12_init_c7 n 305 r0 n107 r0 (ao_zr M n107) (ao_nw ρ n107 0 (72 : Int32).toNatClampNeg (72 : Int32).toNatClampNeg)
      else none
    else if pc = 305 then
      if ρ.2.1 q1 = 22 then
      fX12_init_c7 n 308 r0 0 0 M (ao_r ρ q1 51 (some q0))
      else none
    else if pc = 308 then
      (ρ.2.2.2.1).bind fun n110 =>
      if ¬ (72 : Int32) < 0 ∧ (72 : Int32).toNatClampNeg * 8 ≤ 536870912 then
      fX12_init_c7 n 313 r0 n110 r0 (ao_zr M n110) (ao_nw ρ n110 0 (72 : Int32).toNatClampNeg (72 : Int32).toNatClampNeg)
      else none
    else if pc = 313 then
      if ρ.2.1 q1 = 22 then
      fX12_init_c7 n 316 r0 0 0 M (ao_r ρ q1 52 (some q0))
      else none
    else if pc = 316 then
      (ρ.2.2.2.1).bind fun n113 =>
      if ¬ (1872 : Int32) < 0 ∧ (1872 : Int32).toNatClampNeg * 8 ≤ 536870912 then
      fX12_init_c7 n 322 r0 n113 r0 (ao_zr M n113) (ao_nw ρ n113 0 (1872 : Int32).toNatClampNeg (1872 : Int32).toNatClampNeg)
      else none
    else if pc = 322 then
      if ρ.2.1 q1 = 22 then
      fX12_init_c7 n 325 r0 0 0 M (ao_r ρ q1 53 (some q0))
      else none
    else if pc = 325 then
      (ρ.2.2.2.1).bind fun n116 =>
      if ¬ (72 : Int32) < 0 ∧ (72 : Int32).toNatClampNeg * 8 ≤ 536870912 then
      fX12_init_c7 n 330 r0 n116 r0 (ao_zr M n116) (ao_nw ρ n116 2 (72 : Int32).toNatClampNeg (72 : Int32).toNatClampNeg)
      else none
    else if pc = 330 then
      if ρ.2.1 q1 = 22 then
      fX12_init_c7 n 333 r0 0 0 M (ao_r ρ q1 54 (some q0))
      else none
    else if pc = 333 then
      (ρ.2.2.2.1).bind fun n119 =>
      if ¬ (1872 : Int32) < 0 ∧ (1872 : Int32).toNatClampNeg * 8 ≤ 536870912 then
      fX12_init_c7 n 339 r0 n119 r0 (ao_zr M n119) (ao_nw ρ n119 2 (1872 : Int32).toNatClampNeg (1872 : Int32).toNatClampNeg)
      else none
    else if pc = 339 then
      if ρ.2.1 q1 = 22 then
      fX12_init_c8 n 342 r0 0 0 M (ao_r ρ q1 55 (some q0))
      else none
    else none
set_option maxRecDepth 100000 in
set_option maxHeartbeats 4000000 in
theorem mX12_init_c7 : ∀ n : Nat, (∀ (r0 : Nat) (M : ao_M) (ρ : ao_H) (y : ao_S), fX12_init_c7 n 300 r0 0 0 M ρ = some y → ao_le ρ y.2) ∧ (∀ (r0 : Nat) (q0 : Nat) (q1 : Nat) (M : ao_M) (ρ : ao_H) (y : ao_S), fX12_init_c7 n 305 r0 q0 q1 M ρ = some y → ao_le ρ y.2) ∧ (∀ (r0 : Nat) (M : ao_M) (ρ : ao_H) (y : ao_S), fX12_init_c7 n 308 r0 0 0 M ρ = some y → ao_le ρ y.2) ∧ (∀ (r0 : Nat) (q0 : Nat) (q1 : Nat) (M : ao_M) (ρ : ao_H) (y : ao_S), fX12_init_c7 n 313 r0 q0 q1 M ρ = some y → ao_le ρ y.2) ∧ (∀ (r0 : Nat) (M : ao_M) (ρ : ao_H) (y : ao_S), fX12_init_c7 n 316 r0 0 0 M ρ = some y → ao_le ρ y.2) ∧ (∀ (r0 : Nat) (q0 : Nat) (q1 : Nat) (M : ao_M) (ρ : ao_H) (y : ao_S), fX12_init_c7 n 322 r0 q0 q1 M ρ = some y → ao_le ρ y.2) ∧ (∀ (r0 : Nat) (M : ao_M) (ρ : ao_H) (y : ao_S), fX12_init_c7 n 325 r0 0 0 M ρ = some y → ao_le ρ y.2) ∧ (∀ (r0 : Nat) (q0 : Nat) (q1 : Nat) (M : ao_M) (ρ : ao_H) (y : ao_S), fX12_init_c7 n 330 r0 q0 q1 M ρ = some y → ao_le ρ y.2) ∧ (∀ (r0 : Nat) (M : ao_M) (ρ : ao_H) (y : ao_S), fX12_init_c7 n 333 r0 0 0 M ρ = some y → ao_le ρ y.2) ∧ (∀ (r0 : Nat) (q0 : Nat) (q1 : Nat) (M : ao_M) (ρ : ao_H) (y : ao_S), fX12_init_c7 n 339 r0 q0 q1 M ρ = some y → ao_le ρ y.2) := by
  intro n
  induction n with
  | zero => exact ⟨fun _ _ _ _ h => ao_no h, fun _ _ _ _ _ _ h => ao_no h, fun _ _ _ _ h => ao_no h, fun _ _ _ _ _ _ h => ao_no h, fun _ _ _ _ h => ao_no h, fun _ _ _ _ _ _ h => ao_no h, fun _ _ _ _ h => ao_no h, fun _ _ _ _ _ _ h => ao_no h, fun _ _ _ _ h => ao_no h, fun _ _ _ _ _ _ h => ao_no h⟩
  | succ n ih =>
    refine ⟨?_, ?_, ?_, ?_, ?_, ?_, ?_, ?_, ?_, ?_⟩
    · intro r0 M ρ y h
      replace h := ao_ifT h rfl
      obtain ⟨n107, hn107, h⟩ := ao_bind h
      obtain ⟨-, h⟩ := ao_some h
      exact ao_le_tr (ao_le_nw _ _ _ _ _) (ih.2.1 r0 n107 r0 (ao_zr M n107) (ao_nw ρ n107 0 (72 : Int32).toNatClampNeg (72 : Int32).toNatClampNeg) _ h)
    · intro r0 q0 q1 M ρ y h
      replace h := ao_ifF h (by decide)
      replace h := ao_ifT h rfl
      obtain ⟨-, h⟩ := ao_some h
      exact ao_le_tr (ao_le_r _ _ _ _) (ih.2.2.1 r0 M (ao_r ρ q1 51 (some q0)) _ h)
    · intro r0 M ρ y h
      replace h := ao_ifF h (by decide)
      replace h := ao_ifF h (by decide)
      replace h := ao_ifT h rfl
      obtain ⟨n110, hn110, h⟩ := ao_bind h
      obtain ⟨-, h⟩ := ao_some h
      exact ao_le_tr (ao_le_nw _ _ _ _ _) (ih.2.2.2.1 r0 n110 r0 (ao_zr M n110) (ao_nw ρ n110 0 (72 : Int32).toNatClampNeg (72 : Int32).toNatClampNeg) _ h)
    · intro r0 q0 q1 M ρ y h
      replace h := ao_ifF h (by decide)
      replace h := ao_ifF h (by decide)
      replace h := ao_ifF h (by decide)
      replace h := ao_ifT h rfl
      obtain ⟨-, h⟩ := ao_some h
      exact ao_le_tr (ao_le_r _ _ _ _) (ih.2.2.2.2.1 r0 M (ao_r ρ q1 52 (some q0)) _ h)
    · intro r0 M ρ y h
      replace h := ao_ifF h (by decide)
      replace h := ao_ifF h (by decide)
      replace h := ao_ifF h (by decide)
      replace h := ao_ifF h (by decide)
      replace h := ao_ifT h rfl
      obtain ⟨n113, hn113, h⟩ := ao_bind h
      obtain ⟨-, h⟩ := ao_some h
      exact ao_le_tr (ao_le_nw _ _ _ _ _) (ih.2.2.2.2.2.1 r0 n113 r0 (ao_zr M n113) (ao_nw ρ n113 0 (1872 : Int32).toNatClampNeg (1872 : Int32).toNatClampNeg) _ h)
    · intro r0 q0 q1 M ρ y h
      replace h := ao_ifF h (by decide)
      replace h := ao_ifF h (by decide)
      replace h := ao_ifF h (by decide)
      replace h := ao_ifF h (by decide)
      replace h := ao_ifF h (by decide)
      replace h := ao_ifT h rfl
      obtain ⟨-, h⟩ := ao_some h
      exact ao_le_tr (ao_le_r _ _ _ _) (ih.2.2.2.2.2.2.1 r0 M (ao_r ρ q1 53 (some q0)) _ h)
    · intro r0 M ρ y h
      replace h := ao_ifF h (by decide)
      replace h := ao_ifF h (by decide)
      replace h := ao_ifF h (by decide)
      replace h := ao_ifF h (by decide)
      replace h := ao_ifF h (by decide)
      replace h := ao_ifF h (by decide)
      replace h := ao_ifT h rfl
      obtain ⟨n116, hn116, h⟩ := ao_bind h
      obtain ⟨-, h⟩ := ao_some h
      exact ao_le_tr (ao_le_nw _ _ _ _ _) (ih.2.2.2.2.2.2.2.1 r0 n116 r0 (ao_zr M n116) (ao_nw ρ n116 2 (72 : Int32).toNatClampNeg (72 : Int32).toNatClampNeg) _ h)
    · intro r0 q0 q1 M ρ y h
      replace h := ao_ifF h (by decide)
      replace h := ao_ifF h (by decide)
      replace h := ao_ifF h (by decide)
      replace h := ao_ifF h (by decide)
      replace h := ao_ifF h (by decide)
      replace h := ao_ifF h (by decide)
      replace h := ao_ifF h (by decide)
      replace h := ao_ifT h rfl
      obtain ⟨-, h⟩ := ao_some h
      exact ao_le_tr (ao_le_r _ _ _ _) (ih.2.2.2.2.2.2.2.2.1 r0 M (ao_r ρ q1 54 (some q0)) _ h)
    · intro r0 M ρ y h
      replace h := ao_ifF h (by decide)
      replace h := ao_ifF h (by decide)
      replace h := ao_ifF h (by decide)
      replace h := ao_ifF h (by decide)
      replace h := ao_ifF h (by decide)
      replace h := ao_ifF h (by decide)
      replace h := ao_ifF h (by decide)
      replace h := ao_ifF h (by decide)
      replace h := ao_ifT h rfl
      obtain ⟨n119, hn119, h⟩ := ao_bind h
      obtain ⟨-, h⟩ := ao_some h
      exact ao_le_tr (ao_le_nw _ _ _ _ _) (ih.2.2.2.2.2.2.2.2.2 r0 n119 r0 (ao_zr M n119) (ao_nw ρ n119 2 (1872 : Int32).toNatClampNeg (1872 : Int32).toNatClampNeg) _ h)
    · intro r0 q0 q1 M ρ y h
      replace h := ao_ifF h (by decide)
      replace h := ao_ifF h (by decide)
      replace h := ao_ifF h (by decide)
      replace h := ao_ifF h (by decide)
      replace h := ao_ifF h (by decide)
      replace h := ao_ifF h (by decide)
      replace h := ao_ifF h (by decide)
      replace h := ao_ifF h (by decide)
      replace h := ao_ifF h (by decide)
      replace h := ao_ifT h rfl
      obtain ⟨-, h⟩ := ao_some h
      exact ao_le_tr (ao_le_r _ _ _ _) ((mX12_init_c8 n).1 r0 M (ao_r ρ q1 55 (some q0)) _ h)
set_option maxRecDepth 100000 in
set_option maxHeartbeats 4000000 in
theorem wX12_init_c7 {Γ : ao_C} (d : Nat) (hd : 5 ≤ d) (MC MS : Nat) : ∀ n : Nat, (∀ (r0 : Nat) (M : ao_M) (ρ : ao_H) (y : ao_S), fX12_init_c7 n 300 r0 0 0 M ρ = some y → ao_W Γ uX12_init (ao_rm d MC MS) (ao_Q Γ (ao_QV y) MC MS) (ao_dc ρ y.2) (ao_ds ρ y.2) 300 [some (.ref (Γ.2.2.2 + r0))] [] (M, ρ)) ∧ (∀ (r0 : Nat) (q0 : Nat) (q1 : Nat) (M : ao_M) (ρ : ao_H) (y : ao_S), fX12_init_c7 n 305 r0 q0 q1 M ρ = some y → ao_W Γ uX12_init (ao_rm d MC MS) (ao_Q Γ (ao_QV y) MC MS) (ao_dc ρ y.2) (ao_ds ρ y.2) 305 [some (.ref (Γ.2.2.2 + r0))] [.ref (Γ.2.2.2 + q0), .ref (Γ.2.2.2 + q1)] (M, ρ)) ∧ (∀ (r0 : Nat) (M : ao_M) (ρ : ao_H) (y : ao_S), fX12_init_c7 n 308 r0 0 0 M ρ = some y → ao_W Γ uX12_init (ao_rm d MC MS) (ao_Q Γ (ao_QV y) MC MS) (ao_dc ρ y.2) (ao_ds ρ y.2) 308 [some (.ref (Γ.2.2.2 + r0))] [] (M, ρ)) ∧ (∀ (r0 : Nat) (q0 : Nat) (q1 : Nat) (M : ao_M) (ρ : ao_H) (y : ao_S), fX12_init_c7 n 313 r0 q0 q1 M ρ = some y → ao_W Γ uX12_init (ao_rm d MC MS) (ao_Q Γ (ao_QV y) MC MS) (ao_dc ρ y.2) (ao_ds ρ y.2) 313 [some (.ref (Γ.2.2.2 + r0))] [.ref (Γ.2.2.2 + q0), .ref (Γ.2.2.2 + q1)] (M, ρ)) ∧ (∀ (r0 : Nat) (M : ao_M) (ρ : ao_H) (y : ao_S), fX12_init_c7 n 316 r0 0 0 M ρ = some y → ao_W Γ uX12_init (ao_rm d MC MS) (ao_Q Γ (ao_QV y) MC MS) (ao_dc ρ y.2) (ao_ds ρ y.2) 316 [some (.ref (Γ.2.2.2 + r0))] [] (M, ρ)) ∧ (∀ (r0 : Nat) (q0 : Nat) (q1 : Nat) (M : ao_M) (ρ : ao_H) (y : ao_S), fX12_init_c7 n 322 r0 q0 q1 M ρ = some y → ao_W Γ uX12_init (ao_rm d MC MS) (ao_Q Γ (ao_QV y) MC MS) (ao_dc ρ y.2) (ao_ds ρ y.2) 322 [some (.ref (Γ.2.2.2 + r0))] [.ref (Γ.2.2.2 + q0), .ref (Γ.2.2.2 + q1)] (M, ρ)) ∧ (∀ (r0 : Nat) (M : ao_M) (ρ : ao_H) (y : ao_S), fX12_init_c7 n 325 r0 0 0 M ρ = some y → ao_W Γ uX12_init (ao_rm d MC MS) (ao_Q Γ (ao_QV y) MC MS) (ao_dc ρ y.2) (ao_ds ρ y.2) 325 [some (.ref (Γ.2.2.2 + r0))] [] (M, ρ)) ∧ (∀ (r0 : Nat) (q0 : Nat) (q1 : Nat) (M : ao_M) (ρ : ao_H) (y : ao_S), fX12_init_c7 n 330 r0 q0 q1 M ρ = some y → ao_W Γ uX12_init (ao_rm d MC MS) (ao_Q Γ (ao_QV y) MC MS) (ao_dc ρ y.2) (ao_ds ρ y.2) 330 [some (.ref (Γ.2.2.2 + r0))] [.ref (Γ.2.2.2 + q0), .ref (Γ.2.2.2 + q1)] (M, ρ)) ∧ (∀ (r0 : Nat) (M : ao_M) (ρ : ao_H) (y : ao_S), fX12_init_c7 n 333 r0 0 0 M ρ = some y → ao_W Γ uX12_init (ao_rm d MC MS) (ao_Q Γ (ao_QV y) MC MS) (ao_dc ρ y.2) (ao_ds ρ y.2) 333 [some (.ref (Γ.2.2.2 + r0))] [] (M, ρ)) ∧ (∀ (r0 : Nat) (q0 : Nat) (q1 : Nat) (M : ao_M) (ρ : ao_H) (y : ao_S), fX12_init_c7 n 339 r0 q0 q1 M ρ = some y → ao_W Γ uX12_init (ao_rm d MC MS) (ao_Q Γ (ao_QV y) MC MS) (ao_dc ρ y.2) (ao_ds ρ y.2) 339 [some (.ref (Γ.2.2.2 + r0))] [.ref (Γ.2.2.2 + q0), .ref (Γ.2.2.2 + q1)] (M, ρ)) := by
  intro n
  induction n with
  | zero => exact ⟨fun _ _ _ _ h => ao_no h, fun _ _ _ _ _ _ h => ao_no h, fun _ _ _ _ h => ao_no h, fun _ _ _ _ _ _ h => ao_no h, fun _ _ _ _ h => ao_no h, fun _ _ _ _ _ _ h => ao_no h, fun _ _ _ _ h => ao_no h, fun _ _ _ _ _ _ h => ao_no h, fun _ _ _ _ h => ao_no h, fun _ _ _ _ _ _ h => ao_no h⟩
  | succ n ih =>
    refine ⟨?_, ?_, ?_, ?_, ?_, ?_, ?_, ?_, ?_, ?_⟩
    · intro r0 M ρ y h
      replace h := ao_ifT h rfl
      refine ao_aload_n 0 dX12_init_300 rfl rfl ?_
      refine ao_bipush (v := 72) dX12_init_301 (by decide) ?_
      obtain ⟨n107, hn107, h⟩ := ao_bind h
      obtain ⟨hb108, h⟩ := ao_some h
      refine ba_newa n107 0 dX12_init_303 rfl (by decide) hn107 lna_0 hb108.1 hb108.2 (ao_dc_nw ((mX12_init_c7 n).2.1 r0 n107 r0 (ao_zr M n107) (ao_nw ρ n107 0 (72 : Int32).toNatClampNeg (72 : Int32).toNatClampNeg) _ h)) ?_
      exact ih.2.1 r0 n107 r0 (ao_zr M n107) (ao_nw ρ n107 0 (72 : Int32).toNatClampNeg (72 : Int32).toNatClampNeg) _ h
    · intro r0 q0 q1 M ρ y h
      replace h := ao_ifF h (by decide)
      replace h := ao_ifT h rfl
      obtain ⟨hk109, h⟩ := ao_some h
      refine ba_putR q1 12 51 (q := (RX12, TX12, 83)) dX12_init_305 rfl hk109 (Nat.le_of_ble_eq_true rfl) lf_X12_253 (Or.inr ⟨rfl, rfl⟩) rfl rfl rfl ?_
      exact ih.2.2.1 r0 M (ao_r ρ q1 51 (some q0)) _ h
    · intro r0 M ρ y h
      replace h := ao_ifF h (by decide)
      replace h := ao_ifF h (by decide)
      replace h := ao_ifT h rfl
      refine ao_aload_n 0 dX12_init_308 rfl rfl ?_
      refine ao_bipush (v := 72) dX12_init_309 (by decide) ?_
      obtain ⟨n110, hn110, h⟩ := ao_bind h
      obtain ⟨hb111, h⟩ := ao_some h
      refine ba_newa n110 0 dX12_init_311 rfl (by decide) hn110 lna_0 hb111.1 hb111.2 (ao_dc_nw ((mX12_init_c7 n).2.2.2.1 r0 n110 r0 (ao_zr M n110) (ao_nw ρ n110 0 (72 : Int32).toNatClampNeg (72 : Int32).toNatClampNeg) _ h)) ?_
      exact ih.2.2.2.1 r0 n110 r0 (ao_zr M n110) (ao_nw ρ n110 0 (72 : Int32).toNatClampNeg (72 : Int32).toNatClampNeg) _ h
    · intro r0 q0 q1 M ρ y h
      replace h := ao_ifF h (by decide)
      replace h := ao_ifF h (by decide)
      replace h := ao_ifF h (by decide)
      replace h := ao_ifT h rfl
      obtain ⟨hk112, h⟩ := ao_some h
      refine ba_putR q1 12 52 (q := (RX12, TX12, 83)) dX12_init_313 rfl hk112 (Nat.le_of_ble_eq_true rfl) lf_X12_256 (Or.inr ⟨rfl, rfl⟩) rfl rfl rfl ?_
      exact ih.2.2.2.2.1 r0 M (ao_r ρ q1 52 (some q0)) _ h
    · intro r0 M ρ y h
      replace h := ao_ifF h (by decide)
      replace h := ao_ifF h (by decide)
      replace h := ao_ifF h (by decide)
      replace h := ao_ifF h (by decide)
      replace h := ao_ifT h rfl
      refine ao_aload_n 0 dX12_init_316 rfl rfl ?_
      refine ao_sipush (v := 1872) dX12_init_317 (by decide) ?_
      obtain ⟨n113, hn113, h⟩ := ao_bind h
      obtain ⟨hb114, h⟩ := ao_some h
      refine ba_newa n113 0 dX12_init_320 rfl (by decide) hn113 lna_0 hb114.1 hb114.2 (ao_dc_nw ((mX12_init_c7 n).2.2.2.2.2.1 r0 n113 r0 (ao_zr M n113) (ao_nw ρ n113 0 (1872 : Int32).toNatClampNeg (1872 : Int32).toNatClampNeg) _ h)) ?_
      exact ih.2.2.2.2.2.1 r0 n113 r0 (ao_zr M n113) (ao_nw ρ n113 0 (1872 : Int32).toNatClampNeg (1872 : Int32).toNatClampNeg) _ h
    · intro r0 q0 q1 M ρ y h
      replace h := ao_ifF h (by decide)
      replace h := ao_ifF h (by decide)
      replace h := ao_ifF h (by decide)
      replace h := ao_ifF h (by decide)
      replace h := ao_ifF h (by decide)
      replace h := ao_ifT h rfl
      obtain ⟨hk115, h⟩ := ao_some h
      refine ba_putR q1 12 53 (q := (RX12, TX12, 83)) dX12_init_322 rfl hk115 (Nat.le_of_ble_eq_true rfl) lf_X12_259 (Or.inr ⟨rfl, rfl⟩) rfl rfl rfl ?_
      exact ih.2.2.2.2.2.2.1 r0 M (ao_r ρ q1 53 (some q0)) _ h
    · intro r0 M ρ y h
      replace h := ao_ifF h (by decide)
      replace h := ao_ifF h (by decide)
      replace h := ao_ifF h (by decide)
      replace h := ao_ifF h (by decide)
      replace h := ao_ifF h (by decide)
      replace h := ao_ifF h (by decide)
      replace h := ao_ifT h rfl
      refine ao_aload_n 0 dX12_init_325 rfl rfl ?_
      refine ao_bipush (v := 72) dX12_init_326 (by decide) ?_
      obtain ⟨n116, hn116, h⟩ := ao_bind h
      obtain ⟨hb117, h⟩ := ao_some h
      refine ba_newa n116 2 dX12_init_328 rfl (by decide) hn116 lna_2 hb117.1 hb117.2 (ao_dc_nw ((mX12_init_c7 n).2.2.2.2.2.2.2.1 r0 n116 r0 (ao_zr M n116) (ao_nw ρ n116 2 (72 : Int32).toNatClampNeg (72 : Int32).toNatClampNeg) _ h)) ?_
      exact ih.2.2.2.2.2.2.2.1 r0 n116 r0 (ao_zr M n116) (ao_nw ρ n116 2 (72 : Int32).toNatClampNeg (72 : Int32).toNatClampNeg) _ h
    · intro r0 q0 q1 M ρ y h
      replace h := ao_ifF h (by decide)
      replace h := ao_ifF h (by decide)
      replace h := ao_ifF h (by decide)
      replace h := ao_ifF h (by decide)
      replace h := ao_ifF h (by decide)
      replace h := ao_ifF h (by decide)
      replace h := ao_ifF h (by decide)
      replace h := ao_ifT h rfl
      obtain ⟨hk118, h⟩ := ao_some h
      refine ba_putR q1 12 54 (q := (RX12, TX12, 83)) dX12_init_330 rfl hk118 (Nat.le_of_ble_eq_true rfl) lf_X12_262 (Or.inr ⟨rfl, rfl⟩) rfl rfl rfl ?_
      exact ih.2.2.2.2.2.2.2.2.1 r0 M (ao_r ρ q1 54 (some q0)) _ h
    · intro r0 M ρ y h
      replace h := ao_ifF h (by decide)
      replace h := ao_ifF h (by decide)
      replace h := ao_ifF h (by decide)
      replace h := ao_ifF h (by decide)
      replace h := ao_ifF h (by decide)
      replace h := ao_ifF h (by decide)
      replace h := ao_ifF h (by decide)
      replace h := ao_ifF h (by decide)
      replace h := ao_ifT h rfl
      refine ao_aload_n 0 dX12_init_333 rfl rfl ?_
      refine ao_sipush (v := 1872) dX12_init_334 (by decide) ?_
      obtain ⟨n119, hn119, h⟩ := ao_bind h
      obtain ⟨hb120, h⟩ := ao_some h
      refine ba_newa n119 2 dX12_init_337 rfl (by decide) hn119 lna_2 hb120.1 hb120.2 (ao_dc_nw ((mX12_init_c7 n).2.2.2.2.2.2.2.2.2 r0 n119 r0 (ao_zr M n119) (ao_nw ρ n119 2 (1872 : Int32).toNatClampNeg (1872 : Int32).toNatClampNeg) _ h)) ?_
      exact ih.2.2.2.2.2.2.2.2.2 r0 n119 r0 (ao_zr M n119) (ao_nw ρ n119 2 (1872 : Int32).toNatClampNeg (1872 : Int32).toNatClampNeg) _ h
    · intro r0 q0 q1 M ρ y h
      replace h := ao_ifF h (by decide)
      replace h := ao_ifF h (by decide)
      replace h := ao_ifF h (by decide)
      replace h := ao_ifF h (by decide)
      replace h := ao_ifF h (by decide)
      replace h := ao_ifF h (by decide)
      replace h := ao_ifF h (by decide)
      replace h := ao_ifF h (by decide)
      replace h := ao_ifF h (by decide)
      replace h := ao_ifT h rfl
      obtain ⟨hk121, h⟩ := ao_some h
      refine ba_putR q1 12 55 (q := (RX12, TX12, 83)) dX12_init_339 rfl hk121 (Nat.le_of_ble_eq_true rfl) lf_X12_266 (Or.inr ⟨rfl, rfl⟩) rfl rfl rfl ?_
      exact (wX12_init_c8 d hd MC MS n).1 r0 M (ao_r ρ q1 55 (some q0)) _ h
def fX12_init_c6 : Nat → Nat → Nat → Nat → Nat →  ao_M → ao_H → Option (ao_S)
  | 0, _, _, _, _, _, _ => none
  | n + 1, pc, r0, q0, q1, M, ρ =>
    if pc = 260 then
      (ρ.2.2.2.1).bind fun n92 =>
      if ¬ (72 : Int32) < 0 ∧ (72 : Int32).toNatClampNeg * 8 ≤ 536870912 then
      fX12_init_c6 n 265 r0 n92 r0 (ao_zr M n92) (ao_nw ρ n92 0 (72 : Int32).toNatClampNeg (72 : Int32).toNatClampNeg)
      else none
    else if pc = 265 then
      if ρ.2.1 q1 = 22 then
      fX12_init_c6 n 268 r0 0 0 M (ao_r ρ q1 46 (some q0))
      else none
    else if pc = 268 then
      (ρ.2.2.2.1).bind fun n95 =>
      if ¬ (72 : Int32) < 0 ∧ (72 : Int32).toNatClampNeg * 8 ≤ 536870912 then
      fX12_init_c6 n 273 r0 n95 r0 (ao_zr M n95) (ao_nw ρ n95 0 (72 : Int32).toNatClampNeg (72 : Int32).toNatClampNeg)
      else none
    else if pc = 273 then
      if ρ.2.1 q1 = 22 then
      fX12_init_c6 n 276 r0 0 0 M (ao_r ρ q1 47 (some q0))
      else none
    else if pc = 276 then
      (ρ.2.2.2.1).bind fun n98 =>
      if ¬ (72 : Int32) < 0 ∧ (72 : Int32).toNatClampNeg * 8 ≤ 536870912 then
      fX12_init_c6 n 281 r0 n98 r0 (ao_zr M n98) (ao_nw ρ n98 0 (72 : Int32).toNatClampNeg (72 : Int32).toNatClampNeg)
      else none
    else if pc = 281 then
      if ρ.2.1 q1 = 22 then
      fX12_init_c6 n 284 r0 0 0 M (ao_r ρ q1 48 (some q0))
      else none
    else if pc = 284 then
      (ρ.2.2.2.1).bind fun n101 =>
      if ¬ (72 : Int32) < 0 ∧ (72 : Int32).toNatClampNeg * 8 ≤ 536870912 then
      fX12_init_c6 n 289 r0 n101 r0 (ao_zr M n101) (ao_nw ρ n101 0 (72 : Int32).toNatClampNeg (72 : Int32).toNatClampNeg)
      else none
    else if pc = 289 then
      if ρ.2.1 q1 = 22 then
      fX12_init_c6 n 292 r0 0 0 M (ao_r ρ q1 49 (some q0))
      else none
    else if pc = 292 then
      (ρ.2.2.2.1).bind fun n104 =>
      if ¬ (72 : Int32) < 0 ∧ (72 : Int32).toNatClampNeg * 8 ≤ 536870912 then
      fX12_init_c6 n 297 r0 n104 r0 (ao_zr M n104) (ao_nw ρ n104 0 (72 : Int32).toNatClampNeg (72 : Int32).toNatClampNeg)
      else none
    else if pc = 297 then
      if ρ.2.1 q1 = 22 then
      fX12_init_c7 n 300 r0 0 0 M (ao_r ρ q1 50 (some q0))
      else none
    else none
set_option maxRecDepth 100000 in
set_option maxHeartbeats 4000000 in
theorem mX12_init_c6 : ∀ n : Nat, (∀ (r0 : Nat) (M : ao_M) (ρ : ao_H) (y : ao_S), fX12_init_c6 n 260 r0 0 0 M ρ = some y → ao_le ρ y.2) ∧ (∀ (r0 : Nat) (q0 : Nat) (q1 : Nat) (M : ao_M) (ρ : ao_H) (y : ao_S), fX12_init_c6 n 265 r0 q0 q1 M ρ = some y → ao_le ρ y.2) ∧ (∀ (r0 : Nat) (M : ao_M) (ρ : ao_H) (y : ao_S), fX12_init_c6 n 268 r0 0 0 M ρ = some y → ao_le ρ y.2) ∧ (∀ (r0 : Nat) (q0 : Nat) (q1 : Nat) (M : ao_M) (ρ : ao_H) (y : ao_S), fX12_init_c6 n 273 r0 q0 q1 M ρ = some y → ao_le ρ y.2) ∧ (∀ (r0 : Nat) (M : ao_M) (ρ : ao_H) (y : ao_S), fX12_init_c6 n 276 r0 0 0 M ρ = some y → ao_le ρ y.2) ∧ (∀ (r0 : Nat) (q0 : Nat) (q1 : Nat) (M : ao_M) (ρ : ao_H) (y : ao_S), fX12_init_c6 n 281 r0 q0 q1 M ρ = some y → ao_le ρ y.2) ∧ (∀ (r0 : Nat) (M : ao_M) (ρ : ao_H) (y : ao_S), fX12_init_c6 n 284 r0 0 0 M ρ = some y → ao_le ρ y.2) ∧ (∀ (r0 : Nat) (q0 : Nat) (q1 : Nat) (M : ao_M) (ρ : ao_H) (y : ao_S), fX12_init_c6 n 289 r0 q0 q1 M ρ = some y → ao_le ρ y.2) ∧ (∀ (r0 : Nat) (M : ao_M) (ρ : ao_H) (y : ao_S), fX12_init_c6 n 292 r0 0 0 M ρ = some y → ao_le ρ y.2) ∧ (∀ (r0 : Nat) (q0 : Nat) (q1 : Nat) (M : ao_M) (ρ : ao_H) (y : ao_S), fX12_init_c6 n 297 r0 q0 q1 M ρ = some y → ao_le ρ y.2) := by
  intro n
  induction n with
  | zero => exact ⟨fun _ _ _ _ h => ao_no h, fun _ _ _ _ _ _ h => ao_no h, fun _ _ _ _ h => ao_no h, fun _ _ _ _ _ _ h => ao_no h, fun _ _ _ _ h => ao_no h, fun _ _ _ _ _ _ h => ao_no h, fun _ _ _ _ h => ao_no h, fun _ _ _ _ _ _ h => ao_no h, fun _ _ _ _ h => ao_no h, fun _ _ _ _ _ _ h => ao_no h⟩
  | succ n ih =>
    refine ⟨?_, ?_, ?_, ?_, ?_, ?_, ?_, ?_, ?_, ?_⟩
    · intro r0 M ρ y h
      replace h := ao_ifT h rfl
      obtain ⟨n92, hn92, h⟩ := ao_bind h
      obtain ⟨-, h⟩ := ao_some h
      exact ao_le_tr (ao_le_nw _ _ _ _ _) (ih.2.1 r0 n92 r0 (ao_zr M n92) (ao_nw ρ n92 0 (72 : Int32).toNatClampNeg (72 : Int32).toNatClampNeg) _ h)
    · intro r0 q0 q1 M ρ y h
      replace h := ao_ifF h (by decide)
      replace h := ao_ifT h rfl
      obtain ⟨-, h⟩ := ao_some h
      exact ao_le_tr (ao_le_r _ _ _ _) (ih.2.2.1 r0 M (ao_r ρ q1 46 (some q0)) _ h)
    · intro r0 M ρ y h
      replace h := ao_ifF h (by decide)
      replace h := ao_ifF h (by decide)
      replace h := ao_ifT h rfl
      obtain ⟨n95, hn95, h⟩ := ao_bind h
      obtain ⟨-, h⟩ := ao_some h
      exact ao_le_tr (ao_le_nw _ _ _ _ _) (ih.2.2.2.1 r0 n95 r0 (ao_zr M n95) (ao_nw ρ n95 0 (72 : Int32).toNatClampNeg (72 : Int32).toNatClampNeg) _ h)
    · intro r0 q0 q1 M ρ y h
      replace h := ao_ifF h (by decide)
      replace h := ao_ifF h (by decide)
      replace h := ao_ifF h (by decide)
      replace h := ao_ifT h rfl
      obtain ⟨-, h⟩ := ao_some h
      exact ao_le_tr (ao_le_r _ _ _ _) (ih.2.2.2.2.1 r0 M (ao_r ρ q1 47 (some q0)) _ h)
    · intro r0 M ρ y h
      replace h := ao_ifF h (by decide)
      replace h := ao_ifF h (by decide)
      replace h := ao_ifF h (by decide)
      replace h := ao_ifF h (by decide)
      replace h := ao_ifT h rfl
      obtain ⟨n98, hn98, h⟩ := ao_bind h
      obtain ⟨-, h⟩ := ao_some h
      exact ao_le_tr (ao_le_nw _ _ _ _ _) (ih.2.2.2.2.2.1 r0 n98 r0 (ao_zr M n98) (ao_nw ρ n98 0 (72 : Int32).toNatClampNeg (72 : Int32).toNatClampNeg) _ h)
    · intro r0 q0 q1 M ρ y h
      replace h := ao_ifF h (by decide)
      replace h := ao_ifF h (by decide)
      replace h := ao_ifF h (by decide)
      replace h := ao_ifF h (by decide)
      replace h := ao_ifF h (by decide)
      replace h := ao_ifT h rfl
      obtain ⟨-, h⟩ := ao_some h
      exact ao_le_tr (ao_le_r _ _ _ _) (ih.2.2.2.2.2.2.1 r0 M (ao_r ρ q1 48 (some q0)) _ h)
    · intro r0 M ρ y h
      replace h := ao_ifF h (by decide)
      replace h := ao_ifF h (by decide)
      replace h := ao_ifF h (by decide)
      replace h := ao_ifF h (by decide)
      replace h := ao_ifF h (by decide)
      replace h := ao_ifF h (by decide)
      replace h := ao_ifT h rfl
      obtain ⟨n101, hn101, h⟩ := ao_bind h
      obtain ⟨-, h⟩ := ao_some h
      exact ao_le_tr (ao_le_nw _ _ _ _ _) (ih.2.2.2.2.2.2.2.1 r0 n101 r0 (ao_zr M n101) (ao_nw ρ n101 0 (72 : Int32).toNatClampNeg (72 : Int32).toNatClampNeg) _ h)
    · intro r0 q0 q1 M ρ y h
      replace h := ao_ifF h (by decide)
      replace h := ao_ifF h (by decide)
      replace h := ao_ifF h (by decide)
      replace h := ao_ifF h (by decide)
      replace h := ao_ifF h (by decide)
      replace h := ao_ifF h (by decide)
      replace h := ao_ifF h (by decide)
      replace h := ao_ifT h rfl
      obtain ⟨-, h⟩ := ao_some h
      exact ao_le_tr (ao_le_r _ _ _ _) (ih.2.2.2.2.2.2.2.2.1 r0 M (ao_r ρ q1 49 (some q0)) _ h)
    · intro r0 M ρ y h
      replace h := ao_ifF h (by decide)
      replace h := ao_ifF h (by decide)
      replace h := ao_ifF h (by decide)
      replace h := ao_ifF h (by decide)
      replace h := ao_ifF h (by decide)
      replace h := ao_ifF h (by decide)
      replace h := ao_ifF h (by decide)
      replace h := ao_ifF h (by decide)
      replace h := ao_ifT h rfl
      obtain ⟨n104, hn104, h⟩ := ao_bind h
      obtain ⟨-, h⟩ := ao_some h
      exact ao_le_tr (ao_le_nw _ _ _ _ _) (ih.2.2.2.2.2.2.2.2.2 r0 n104 r0 (ao_zr M n104) (ao_nw ρ n104 0 (72 : Int32).toNatClampNeg (72 : Int32).toNatClampNeg) _ h)
    · intro r0 q0 q1 M ρ y h
      replace h := ao_ifF h (by decide)
      replace h := ao_ifF h (by decide)
      replace h := ao_ifF h (by decide)
      replace h := ao_ifF h (by decide)
      replace h := ao_ifF h (by decide)
      replace h := ao_ifF h (by decide)
      replace h := ao_ifF h (by decide)
      replace h := ao_ifF h (by decide)
      replace h := ao_ifF h (by decide)
      replace h := ao_ifT h rfl
      obtain ⟨-, h⟩ := ao_some h
      exact ao_le_tr (ao_le_r _ _ _ _) ((mX12_init_c7 n).1 r0 M (ao_r ρ q1 50 (some q0)) _ h)
set_option maxRecDepth 100000 in
set_option maxHeartbeats 4000000 in
theorem wX12_init_c6 {Γ : ao_C} (d : Nat) (hd : 5 ≤ d) (MC MS : Nat) : ∀ n : Nat, (∀ (r0 : Nat) (M : ao_M) (ρ : ao_H) (y : ao_S), fX12_init_c6 n 260 r0 0 0 M ρ = some y → ao_W Γ uX12_init (ao_rm d MC MS) (ao_Q Γ (ao_QV y) MC MS) (ao_dc ρ y.2) (ao_ds ρ y.2) 260 [some (.ref (Γ.2.2.2 + r0))] [] (M, ρ)) ∧ (∀ (r0 : Nat) (q0 : Nat) (q1 : Nat) (M : ao_M) (ρ : ao_H) (y : ao_S), fX12_init_c6 n 265 r0 q0 q1 M ρ = some y → ao_W Γ uX12_init (ao_rm d MC MS) (ao_Q Γ (ao_QV y) MC MS) (ao_dc ρ y.2) (ao_ds ρ y.2) 265 [some (.ref (Γ.2.2.2 + r0))] [.ref (Γ.2.2.2 + q0), .ref (Γ.2.2.2 + q1)] (M, ρ)) ∧ (∀ (r0 : Nat) (M : ao_M) (ρ : ao_H) (y : ao_S), fX12_init_c6 n 268 r0 0 0 M ρ = some y → ao_W Γ uX12_init (ao_rm d MC MS) (ao_Q Γ (ao_QV y) MC MS) (ao_dc ρ y.2) (ao_ds ρ y.2) 268 [some (.ref (Γ.2.2.2 + r0))] [] (M, ρ)) ∧ (∀ (r0 : Nat) (q0 : Nat) (q1 : Nat) (M : ao_M) (ρ : ao_H) (y : ao_S), fX12_init_c6 n 273 r0 q0 q1 M ρ = some y → ao_W Γ uX12_init (ao_rm d MC MS) (ao_Q Γ (ao_QV y) MC MS) (ao_dc ρ y.2) (ao_ds ρ y.2) 273 [some (.ref (Γ.2.2.2 + r0))] [.ref (Γ.2.2.2 + q0), .ref (Γ.2.2.2 + q1)] (M, ρ)) ∧ (∀ (r0 : Nat) (M : ao_M) (ρ : ao_H) (y : ao_S), fX12_init_c6 n 276 r0 0 0 M ρ = some y → ao_W Γ uX12_init (ao_rm d MC MS) (ao_Q Γ (ao_QV y) MC MS) (ao_dc ρ y.2) (ao_ds ρ y.2) 276 [some (.ref (Γ.2.2.2 + r0))] [] (M, ρ)) ∧ (∀ (r0 : Nat) (q0 : Nat) (q1 : Nat) (M : ao_M) (ρ : ao_H) (y : ao_S), fX12_init_c6 n 281 r0 q0 q1 M ρ = some y → ao_W Γ uX12_init (ao_rm d MC MS) (ao_Q Γ (ao_QV y) MC MS) (ao_dc ρ y.2) (ao_ds ρ y.2) 281 [some (.ref (Γ.2.2.2 + r0))] [.ref (Γ.2.2.2 + q0), .ref (Γ.2.2.2 + q1)] (M, ρ)) ∧ (∀ (r0 : Nat) (M : ao_M) (ρ : ao_H) (y : ao_S), fX12_init_c6 n 284 r0 0 0 M ρ = some y → ao_W Γ uX12_init (ao_rm d MC MS) (ao_Q Γ (ao_QV y) MC MS) (ao_dc ρ y.2) (ao_ds ρ y.2) 284 [some (.ref (Γ.2.2.2 + r0))] [] (M, ρ)) ∧ (∀ (r0 : Nat) (q0 : Nat) (q1 : Nat) (M : ao_M) (ρ : ao_H) (y : ao_S), fX12_init_c6 n 289 r0 q0 q1 M ρ = some y → ao_W Γ uX12_init (ao_rm d MC MS) (ao_Q Γ (ao_QV y) MC MS) (ao_dc ρ y.2) (ao_ds ρ y.2) 289 [some (.ref (Γ.2.2.2 + r0))] [.ref (Γ.2.2.2 + q0), .ref (Γ.2.2.2 + q1)] (M, ρ)) ∧ (∀ (r0 : Nat) (M : ao_M) (ρ : ao_H) (y : ao_S), fX12_init_c6 n 292 r0 0 0 M ρ = some y → ao_W Γ uX12_init (ao_rm d MC MS) (ao_Q Γ (ao_QV y) MC MS) (ao_dc ρ y.2) (ao_ds ρ y.2) 292 [some (.ref (Γ.2.2.2 + r0))] [] (M, ρ)) ∧ (∀ (r0 : Nat) (q0 : Nat) (q1 : Nat) (M : ao_M) (ρ : ao_H) (y : ao_S), fX12_init_c6 n 297 r0 q0 q1 M ρ = some y → ao_W Γ uX12_init (ao_rm d MC MS) (ao_Q Γ (ao_QV y) MC MS) (ao_dc ρ y.2) (ao_ds ρ y.2) 297 [some (.ref (Γ.2.2.2 + r0))] [.ref (Γ.2.2.2 + q0), .ref (Γ.2.2.2 + q1)] (M, ρ)) := by
  intro n
  induction n with
  | zero => exact ⟨fun _ _ _ _ h => ao_no h, fun _ _ _ _ _ _ h => ao_no h, fun _ _ _ _ h => ao_no h, fun _ _ _ _ _ _ h => ao_no h, fun _ _ _ _ h => ao_no h, fun _ _ _ _ _ _ h => ao_no h, fun _ _ _ _ h => ao_no h, fun _ _ _ _ _ _ h => ao_no h, fun _ _ _ _ h => ao_no h, fun _ _ _ _ _ _ h => ao_no h⟩
  | succ n ih =>
    refine ⟨?_, ?_, ?_, ?_, ?_, ?_, ?_, ?_, ?_, ?_⟩
    · intro r0 M ρ y h
      replace h := ao_ifT h rfl
      refine ao_aload_n 0 dX12_init_260 rfl rfl ?_
      refine ao_bipush (v := 72) dX12_init_261 (by decide) ?_
      obtain ⟨n92, hn92, h⟩ := ao_bind h
      obtain ⟨hb93, h⟩ := ao_some h
      refine ba_newa n92 0 dX12_init_263 rfl (by decide) hn92 lna_0 hb93.1 hb93.2 (ao_dc_nw ((mX12_init_c6 n).2.1 r0 n92 r0 (ao_zr M n92) (ao_nw ρ n92 0 (72 : Int32).toNatClampNeg (72 : Int32).toNatClampNeg) _ h)) ?_
      exact ih.2.1 r0 n92 r0 (ao_zr M n92) (ao_nw ρ n92 0 (72 : Int32).toNatClampNeg (72 : Int32).toNatClampNeg) _ h
    · intro r0 q0 q1 M ρ y h
      replace h := ao_ifF h (by decide)
      replace h := ao_ifT h rfl
      obtain ⟨hk94, h⟩ := ao_some h
      refine ba_putR q1 12 46 (q := (RX12, TX12, 83)) dX12_init_265 rfl hk94 (Nat.le_of_ble_eq_true rfl) lf_X12_238 (Or.inr ⟨rfl, rfl⟩) rfl rfl rfl ?_
      exact ih.2.2.1 r0 M (ao_r ρ q1 46 (some q0)) _ h
    · intro r0 M ρ y h
      replace h := ao_ifF h (by decide)
      replace h := ao_ifF h (by decide)
      replace h := ao_ifT h rfl
      refine ao_aload_n 0 dX12_init_268 rfl rfl ?_
      refine ao_bipush (v := 72) dX12_init_269 (by decide) ?_
      obtain ⟨n95, hn95, h⟩ := ao_bind h
      obtain ⟨hb96, h⟩ := ao_some h
      refine ba_newa n95 0 dX12_init_271 rfl (by decide) hn95 lna_0 hb96.1 hb96.2 (ao_dc_nw ((mX12_init_c6 n).2.2.2.1 r0 n95 r0 (ao_zr M n95) (ao_nw ρ n95 0 (72 : Int32).toNatClampNeg (72 : Int32).toNatClampNeg) _ h)) ?_
      exact ih.2.2.2.1 r0 n95 r0 (ao_zr M n95) (ao_nw ρ n95 0 (72 : Int32).toNatClampNeg (72 : Int32).toNatClampNeg) _ h
    · intro r0 q0 q1 M ρ y h
      replace h := ao_ifF h (by decide)
      replace h := ao_ifF h (by decide)
      replace h := ao_ifF h (by decide)
      replace h := ao_ifT h rfl
      obtain ⟨hk97, h⟩ := ao_some h
      refine ba_putR q1 12 47 (q := (RX12, TX12, 83)) dX12_init_273 rfl hk97 (Nat.le_of_ble_eq_true rfl) lf_X12_241 (Or.inr ⟨rfl, rfl⟩) rfl rfl rfl ?_
      exact ih.2.2.2.2.1 r0 M (ao_r ρ q1 47 (some q0)) _ h
    · intro r0 M ρ y h
      replace h := ao_ifF h (by decide)
      replace h := ao_ifF h (by decide)
      replace h := ao_ifF h (by decide)
      replace h := ao_ifF h (by decide)
      replace h := ao_ifT h rfl
      refine ao_aload_n 0 dX12_init_276 rfl rfl ?_
      refine ao_bipush (v := 72) dX12_init_277 (by decide) ?_
      obtain ⟨n98, hn98, h⟩ := ao_bind h
      obtain ⟨hb99, h⟩ := ao_some h
      refine ba_newa n98 0 dX12_init_279 rfl (by decide) hn98 lna_0 hb99.1 hb99.2 (ao_dc_nw ((mX12_init_c6 n).2.2.2.2.2.1 r0 n98 r0 (ao_zr M n98) (ao_nw ρ n98 0 (72 : Int32).toNatClampNeg (72 : Int32).toNatClampNeg) _ h)) ?_
      exact ih.2.2.2.2.2.1 r0 n98 r0 (ao_zr M n98) (ao_nw ρ n98 0 (72 : Int32).toNatClampNeg (72 : Int32).toNatClampNeg) _ h
    · intro r0 q0 q1 M ρ y h
      replace h := ao_ifF h (by decide)
      replace h := ao_ifF h (by decide)
      replace h := ao_ifF h (by decide)
      replace h := ao_ifF h (by decide)
      replace h := ao_ifF h (by decide)
      replace h := ao_ifT h rfl
      obtain ⟨hk100, h⟩ := ao_some h
      refine ba_putR q1 12 48 (q := (RX12, TX12, 83)) dX12_init_281 rfl hk100 (Nat.le_of_ble_eq_true rfl) lf_X12_244 (Or.inr ⟨rfl, rfl⟩) rfl rfl rfl ?_
      exact ih.2.2.2.2.2.2.1 r0 M (ao_r ρ q1 48 (some q0)) _ h
    · intro r0 M ρ y h
      replace h := ao_ifF h (by decide)
      replace h := ao_ifF h (by decide)
      replace h := ao_ifF h (by decide)
      replace h := ao_ifF h (by decide)
      replace h := ao_ifF h (by decide)
      replace h := ao_ifF h (by decide)
      replace h := ao_ifT h rfl
      refine ao_aload_n 0 dX12_init_284 rfl rfl ?_
      refine ao_bipush (v := 72) dX12_init_285 (by decide) ?_
      obtain ⟨n101, hn101, h⟩ := ao_bind h
      obtain ⟨hb102, h⟩ := ao_some h
      refine ba_newa n101 0 dX12_init_287 rfl (by decide) hn101 lna_0 hb102.1 hb102.2 (ao_dc_nw ((mX12_init_c6 n).2.2.2.2.2.2.2.1 r0 n101 r0 (ao_zr M n101) (ao_nw ρ n101 0 (72 : Int32).toNatClampNeg (72 : Int32).toNatClampNeg) _ h)) ?_
      exact ih.2.2.2.2.2.2.2.1 r0 n101 r0 (ao_zr M n101) (ao_nw ρ n101 0 (72 : Int32).toNatClampNeg (72 : Int32).toNatClampNeg) _ h
    · intro r0 q0 q1 M ρ y h
      replace h := ao_ifF h (by decide)
      replace h := ao_ifF h (by decide)
      replace h := ao_ifF h (by decide)
      replace h := ao_ifF h (by decide)
      replace h := ao_ifF h (by decide)
      replace h := ao_ifF h (by decide)
      replace h := ao_ifF h (by decide)
      replace h := ao_ifT h rfl
      obtain ⟨hk103, h⟩ := ao_some h
      refine ba_putR q1 12 49 (q := (RX12, TX12, 83)) dX12_init_289 rfl hk103 (Nat.le_of_ble_eq_true rfl) lf_X12_247 (Or.inr ⟨rfl, rfl⟩) rfl rfl rfl ?_
      exact ih.2.2.2.2.2.2.2.2.1 r0 M (ao_r ρ q1 49 (some q0)) _ h
    · intro r0 M ρ y h
      replace h := ao_ifF h (by decide)
      replace h := ao_ifF h (by decide)
      replace h := ao_ifF h (by decide)
      replace h := ao_ifF h (by decide)
      replace h := ao_ifF h (by decide)
      replace h := ao_ifF h (by decide)
      replace h := ao_ifF h (by decide)
      replace h := ao_ifF h (by decide)
      replace h := ao_ifT h rfl
      refine ao_aload_n 0 dX12_init_292 rfl rfl ?_
      refine ao_bipush (v := 72) dX12_init_293 (by decide) ?_
      obtain ⟨n104, hn104, h⟩ := ao_bind h
      obtain ⟨hb105, h⟩ := ao_some h
      refine ba_newa n104 0 dX12_init_295 rfl (by decide) hn104 lna_0 hb105.1 hb105.2 (ao_dc_nw ((mX12_init_c6 n).2.2.2.2.2.2.2.2.2 r0 n104 r0 (ao_zr M n104) (ao_nw ρ n104 0 (72 : Int32).toNatClampNeg (72 : Int32).toNatClampNeg) _ h)) ?_
      exact ih.2.2.2.2.2.2.2.2.2 r0 n104 r0 (ao_zr M n104) (ao_nw ρ n104 0 (72 : Int32).toNatClampNeg (72 : Int32).toNatClampNeg) _ h
    · intro r0 q0 q1 M ρ y h
      replace h := ao_ifF h (by decide)
      replace h := ao_ifF h (by decide)
      replace h := ao_ifF h (by decide)
      replace h := ao_ifF h (by decide)
      replace h := ao_ifF h (by decide)
      replace h := ao_ifF h (by decide)
      replace h := ao_ifF h (by decide)
      replace h := ao_ifF h (by decide)
      replace h := ao_ifF h (by decide)
      replace h := ao_ifT h rfl
      obtain ⟨hk106, h⟩ := ao_some h
      refine ba_putR q1 12 50 (q := (RX12, TX12, 83)) dX12_init_297 rfl hk106 (Nat.le_of_ble_eq_true rfl) lf_X12_250 (Or.inr ⟨rfl, rfl⟩) rfl rfl rfl ?_
      exact (wX12_init_c7 d hd MC MS n).1 r0 M (ao_r ρ q1 50 (some q0)) _ h
def fX12_init_c5 : Nat → Nat → Nat → Nat → Nat →  ao_M → ao_H → Option (ao_S)
  | 0, _, _, _, _, _, _ => none
  | n + 1, pc, r0, q0, q1, M, ρ =>
    if pc = 220 then
      (ρ.2.2.2.1).bind fun n77 =>
      if ¬ (6 : Int32) < 0 ∧ (6 : Int32).toNatClampNeg * 8 ≤ 536870912 then
      fX12_init_c5 n 225 r0 n77 r0 (ao_zr M n77) (ao_nw ρ n77 0 (6 : Int32).toNatClampNeg (6 : Int32).toNatClampNeg)
      else none
    else if pc = 225 then
      if ρ.2.1 q1 = 22 then
      fX12_init_c5 n 228 r0 0 0 M (ao_r ρ q1 41 (some q0))
      else none
    else if pc = 228 then
      (ρ.2.2.2.1).bind fun n80 =>
      if ¬ (6 : Int32) < 0 ∧ (6 : Int32).toNatClampNeg * 8 ≤ 536870912 then
      fX12_init_c5 n 233 r0 n80 r0 (ao_zr M n80) (ao_nw ρ n80 0 (6 : Int32).toNatClampNeg (6 : Int32).toNatClampNeg)
      else none
    else if pc = 233 then
      if ρ.2.1 q1 = 22 then
      fX12_init_c5 n 236 r0 0 0 M (ao_r ρ q1 42 (some q0))
      else none
    else if pc = 236 then
      (ρ.2.2.2.1).bind fun n83 =>
      if ¬ (72 : Int32) < 0 ∧ (72 : Int32).toNatClampNeg * 8 ≤ 536870912 then
      fX12_init_c5 n 241 r0 n83 r0 (ao_zr M n83) (ao_nw ρ n83 0 (72 : Int32).toNatClampNeg (72 : Int32).toNatClampNeg)
      else none
    else if pc = 241 then
      if ρ.2.1 q1 = 22 then
      fX12_init_c5 n 244 r0 0 0 M (ao_r ρ q1 43 (some q0))
      else none
    else if pc = 244 then
      (ρ.2.2.2.1).bind fun n86 =>
      if ¬ (72 : Int32) < 0 ∧ (72 : Int32).toNatClampNeg * 8 ≤ 536870912 then
      fX12_init_c5 n 249 r0 n86 r0 (ao_zr M n86) (ao_nw ρ n86 0 (72 : Int32).toNatClampNeg (72 : Int32).toNatClampNeg)
      else none
    else if pc = 249 then
      if ρ.2.1 q1 = 22 then
      fX12_init_c5 n 252 r0 0 0 M (ao_r ρ q1 44 (some q0))
      else none
    else if pc = 252 then
      (ρ.2.2.2.1).bind fun n89 =>
      if ¬ (72 : Int32) < 0 ∧ (72 : Int32).toNatClampNeg * 8 ≤ 536870912 then
      fX12_init_c5 n 257 r0 n89 r0 (ao_zr M n89) (ao_nw ρ n89 0 (72 : Int32).toNatClampNeg (72 : Int32).toNatClampNeg)
      else none
    else if pc = 257 then
      if ρ.2.1 q1 = 22 then
      fX12_init_c6 n 260 r0 0 0 M (ao_r ρ q1 45 (some q0))
      else none
    else none
set_option maxRecDepth 100000 in
set_option maxHeartbeats 4000000 in
theorem mX12_init_c5 : ∀ n : Nat, (∀ (r0 : Nat) (M : ao_M) (ρ : ao_H) (y : ao_S), fX12_init_c5 n 220 r0 0 0 M ρ = some y → ao_le ρ y.2) ∧ (∀ (r0 : Nat) (q0 : Nat) (q1 : Nat) (M : ao_M) (ρ : ao_H) (y : ao_S), fX12_init_c5 n 225 r0 q0 q1 M ρ = some y → ao_le ρ y.2) ∧ (∀ (r0 : Nat) (M : ao_M) (ρ : ao_H) (y : ao_S), fX12_init_c5 n 228 r0 0 0 M ρ = some y → ao_le ρ y.2) ∧ (∀ (r0 : Nat) (q0 : Nat) (q1 : Nat) (M : ao_M) (ρ : ao_H) (y : ao_S), fX12_init_c5 n 233 r0 q0 q1 M ρ = some y → ao_le ρ y.2) ∧ (∀ (r0 : Nat) (M : ao_M) (ρ : ao_H) (y : ao_S), fX12_init_c5 n 236 r0 0 0 M ρ = some y → ao_le ρ y.2) ∧ (∀ (r0 : Nat) (q0 : Nat) (q1 : Nat) (M : ao_M) (ρ : ao_H) (y : ao_S), fX12_init_c5 n 241 r0 q0 q1 M ρ = some y → ao_le ρ y.2) ∧ (∀ (r0 : Nat) (M : ao_M) (ρ : ao_H) (y : ao_S), fX12_init_c5 n 244 r0 0 0 M ρ = some y → ao_le ρ y.2) ∧ (∀ (r0 : Nat) (q0 : Nat) (q1 : Nat) (M : ao_M) (ρ : ao_H) (y : ao_S), fX12_init_c5 n 249 r0 q0 q1 M ρ = some y → ao_le ρ y.2) ∧ (∀ (r0 : Nat) (M : ao_M) (ρ : ao_H) (y : ao_S), fX12_init_c5 n 252 r0 0 0 M ρ = some y → ao_le ρ y.2) ∧ (∀ (r0 : Nat) (q0 : Nat) (q1 : Nat) (M : ao_M) (ρ : ao_H) (y : ao_S), fX12_init_c5 n 257 r0 q0 q1 M ρ = some y → ao_le ρ y.2) := by
  intro n
  induction n with
  | zero => exact ⟨fun _ _ _ _ h => ao_no h, fun _ _ _ _ _ _ h => ao_no h, fun _ _ _ _ h => ao_no h, fun _ _ _ _ _ _ h => ao_no h, fun _ _ _ _ h => ao_no h, fun _ _ _ _ _ _ h => ao_no h, fun _ _ _ _ h => ao_no h, fun _ _ _ _ _ _ h => ao_no h, fun _ _ _ _ h => ao_no h, fun _ _ _ _ _ _ h => ao_no h⟩
  | succ n ih =>
    refine ⟨?_, ?_, ?_, ?_, ?_, ?_, ?_, ?_, ?_, ?_⟩
    · intro r0 M ρ y h
      replace h := ao_ifT h rfl
      obtain ⟨n77, hn77, h⟩ := ao_bind h
      obtain ⟨-, h⟩ := ao_some h
      exact ao_le_tr (ao_le_nw _ _ _ _ _) (ih.2.1 r0 n77 r0 (ao_zr M n77) (ao_nw ρ n77 0 (6 : Int32).toNatClampNeg (6 : Int32).toNatClampNeg) _ h)
    · intro r0 q0 q1 M ρ y h
      replace h := ao_ifF h (by decide)
      replace h := ao_ifT h rfl
      obtain ⟨-, h⟩ := ao_some h
      exact ao_le_tr (ao_le_r _ _ _ _) (ih.2.2.1 r0 M (ao_r ρ q1 41 (some q0)) _ h)
    · intro r0 M ρ y h
      replace h := ao_ifF h (by decide)
      replace h := ao_ifF h (by decide)
      replace h := ao_ifT h rfl
      obtain ⟨n80, hn80, h⟩ := ao_bind h
      obtain ⟨-, h⟩ := ao_some h
      exact ao_le_tr (ao_le_nw _ _ _ _ _) (ih.2.2.2.1 r0 n80 r0 (ao_zr M n80) (ao_nw ρ n80 0 (6 : Int32).toNatClampNeg (6 : Int32).toNatClampNeg) _ h)
    · intro r0 q0 q1 M ρ y h
      replace h := ao_ifF h (by decide)
      replace h := ao_ifF h (by decide)
      replace h := ao_ifF h (by decide)
      replace h := ao_ifT h rfl
      obtain ⟨-, h⟩ := ao_some h
      exact ao_le_tr (ao_le_r _ _ _ _) (ih.2.2.2.2.1 r0 M (ao_r ρ q1 42 (some q0)) _ h)
    · intro r0 M ρ y h
      replace h := ao_ifF h (by decide)
      replace h := ao_ifF h (by decide)
      replace h := ao_ifF h (by decide)
      replace h := ao_ifF h (by decide)
      replace h := ao_ifT h rfl
      obtain ⟨n83, hn83, h⟩ := ao_bind h
      obtain ⟨-, h⟩ := ao_some h
      exact ao_le_tr (ao_le_nw _ _ _ _ _) (ih.2.2.2.2.2.1 r0 n83 r0 (ao_zr M n83) (ao_nw ρ n83 0 (72 : Int32).toNatClampNeg (72 : Int32).toNatClampNeg) _ h)
    · intro r0 q0 q1 M ρ y h
      replace h := ao_ifF h (by decide)
      replace h := ao_ifF h (by decide)
      replace h := ao_ifF h (by decide)
      replace h := ao_ifF h (by decide)
      replace h := ao_ifF h (by decide)
      replace h := ao_ifT h rfl
      obtain ⟨-, h⟩ := ao_some h
      exact ao_le_tr (ao_le_r _ _ _ _) (ih.2.2.2.2.2.2.1 r0 M (ao_r ρ q1 43 (some q0)) _ h)
    · intro r0 M ρ y h
      replace h := ao_ifF h (by decide)
      replace h := ao_ifF h (by decide)
      replace h := ao_ifF h (by decide)
      replace h := ao_ifF h (by decide)
      replace h := ao_ifF h (by decide)
      replace h := ao_ifF h (by decide)
      replace h := ao_ifT h rfl
      obtain ⟨n86, hn86, h⟩ := ao_bind h
      obtain ⟨-, h⟩ := ao_some h
      exact ao_le_tr (ao_le_nw _ _ _ _ _) (ih.2.2.2.2.2.2.2.1 r0 n86 r0 (ao_zr M n86) (ao_nw ρ n86 0 (72 : Int32).toNatClampNeg (72 : Int32).toNatClampNeg) _ h)
    · intro r0 q0 q1 M ρ y h
      replace h := ao_ifF h (by decide)
      replace h := ao_ifF h (by decide)
      replace h := ao_ifF h (by decide)
      replace h := ao_ifF h (by decide)
      replace h := ao_ifF h (by decide)
      replace h := ao_ifF h (by decide)
      replace h := ao_ifF h (by decide)
      replace h := ao_ifT h rfl
      obtain ⟨-, h⟩ := ao_some h
      exact ao_le_tr (ao_le_r _ _ _ _) (ih.2.2.2.2.2.2.2.2.1 r0 M (ao_r ρ q1 44 (some q0)) _ h)
    · intro r0 M ρ y h
      replace h := ao_ifF h (by decide)
      replace h := ao_ifF h (by decide)
      replace h := ao_ifF h (by decide)
      replace h := ao_ifF h (by decide)
      replace h := ao_ifF h (by decide)
      replace h := ao_ifF h (by decide)
      replace h := ao_ifF h (by decide)
      replace h := ao_ifF h (by decide)
      replace h := ao_ifT h rfl
      obtain ⟨n89, hn89, h⟩ := ao_bind h
      obtain ⟨-, h⟩ := ao_some h
      exact ao_le_tr (ao_le_nw _ _ _ _ _) (ih.2.2.2.2.2.2.2.2.2 r0 n89 r0 (ao_zr M n89) (ao_nw ρ n89 0 (72 : Int32).toNatClampNeg (72 : Int32).toNatClampNeg) _ h)
    · intro r0 q0 q1 M ρ y h
      replace h := ao_ifF h (by decide)
      replace h := ao_ifF h (by decide)
      replace h := ao_ifF h (by decide)
      replace h := ao_ifF h (by decide)
      replace h := ao_ifF h (by decide)
      replace h := ao_ifF h (by decide)
      replace h := ao_ifF h (by decide)
      replace h := ao_ifF h (by decide)
      replace h := ao_ifF h (by decide)
      replace h := ao_ifT h rfl
      obtain ⟨-, h⟩ := ao_some h
      exact ao_le_tr (ao_le_r _ _ _ _) ((mX12_init_c6 n).1 r0 M (ao_r ρ q1 45 (some q0)) _ h)
set_option maxRecDepth 100000 in
set_option maxHeartbeats 4000000 in
theorem wX12_init_c5 {Γ : ao_C} (d : Nat) (hd : 5 ≤ d) (MC MS : Nat) : ∀ n : Nat, (∀ (r0 : Nat) (M : ao_M) (ρ : ao_H) (y : ao_S), fX12_init_c5 n 220 r0 0 0 M ρ = some y → ao_W Γ uX12_init (ao_rm d MC MS) (ao_Q Γ (ao_QV y) MC MS) (ao_dc ρ y.2) (ao_ds ρ y.2) 220 [some (.ref (Γ.2.2.2 + r0))] [] (M, ρ)) ∧ (∀ (r0 : Nat) (q0 : Nat) (q1 : Nat) (M : ao_M) (ρ : ao_H) (y : ao_S), fX12_init_c5 n 225 r0 q0 q1 M ρ = some y → ao_W Γ uX12_init (ao_rm d MC MS) (ao_Q Γ (ao_QV y) MC MS) (ao_dc ρ y.2) (ao_ds ρ y.2) 225 [some (.ref (Γ.2.2.2 + r0))] [.ref (Γ.2.2.2 + q0), .ref (Γ.2.2.2 + q1)] (M, ρ)) ∧ (∀ (r0 : Nat) (M : ao_M) (ρ : ao_H) (y : ao_S), fX12_init_c5 n 228 r0 0 0 M ρ = some y → ao_W Γ uX12_init (ao_rm d MC MS) (ao_Q Γ (ao_QV y) MC MS) (ao_dc ρ y.2) (ao_ds ρ y.2) 228 [some (.ref (Γ.2.2.2 + r0))] [] (M, ρ)) ∧ (∀ (r0 : Nat) (q0 : Nat) (q1 : Nat) (M : ao_M) (ρ : ao_H) (y : ao_S), fX12_init_c5 n 233 r0 q0 q1 M ρ = some y → ao_W Γ uX12_init (ao_rm d MC MS) (ao_Q Γ (ao_QV y) MC MS) (ao_dc ρ y.2) (ao_ds ρ y.2) 233 [some (.ref (Γ.2.2.2 + r0))] [.ref (Γ.2.2.2 + q0), .ref (Γ.2.2.2 + q1)] (M, ρ)) ∧ (∀ (r0 : Nat) (M : ao_M) (ρ : ao_H) (y : ao_S), fX12_init_c5 n 236 r0 0 0 M ρ = some y → ao_W Γ uX12_init (ao_rm d MC MS) (ao_Q Γ (ao_QV y) MC MS) (ao_dc ρ y.2) (ao_ds ρ y.2) 236 [some (.ref (Γ.2.2.2 + r0))] [] (M, ρ)) ∧ (∀ (r0 : Nat) (q0 : Nat) (q1 : Nat) (M : ao_M) (ρ : ao_H) (y : ao_S), fX12_init_c5 n 241 r0 q0 q1 M ρ = some y → ao_W Γ uX12_init (ao_rm d MC MS) (ao_Q Γ (ao_QV y) MC MS) (ao_dc ρ y.2) (ao_ds ρ y.2) 241 [some (.ref (Γ.2.2.2 + r0))] [.ref (Γ.2.2.2 + q0), .ref (Γ.2.2.2 + q1)] (M, ρ)) ∧ (∀ (r0 : Nat) (M : ao_M) (ρ : ao_H) (y : ao_S), fX12_init_c5 n 244 r0 0 0 M ρ = some y → ao_W Γ uX12_init (ao_rm d MC MS) (ao_Q Γ (ao_QV y) MC MS) (ao_dc ρ y.2) (ao_ds ρ y.2) 244 [some (.ref (Γ.2.2.2 + r0))] [] (M, ρ)) ∧ (∀ (r0 : Nat) (q0 : Nat) (q1 : Nat) (M : ao_M) (ρ : ao_H) (y : ao_S), fX12_init_c5 n 249 r0 q0 q1 M ρ = some y → ao_W Γ uX12_init (ao_rm d MC MS) (ao_Q Γ (ao_QV y) MC MS) (ao_dc ρ y.2) (ao_ds ρ y.2) 249 [some (.ref (Γ.2.2.2 + r0))] [.ref (Γ.2.2.2 + q0), .ref (Γ.2.2.2 + q1)] (M, ρ)) ∧ (∀ (r0 : Nat) (M : ao_M) (ρ : ao_H) (y : ao_S), fX12_init_c5 n 252 r0 0 0 M ρ = some y → ao_W Γ uX12_init (ao_rm d MC MS) (ao_Q Γ (ao_QV y) MC MS) (ao_dc ρ y.2) (ao_ds ρ y.2) 252 [some (.ref (Γ.2.2.2 + r0))] [] (M, ρ)) ∧ (∀ (r0 : Nat) (q0 : Nat) (q1 : Nat) (M : ao_M) (ρ : ao_H) (y : ao_S), fX12_init_c5 n 257 r0 q0 q1 M ρ = some y → ao_W Γ uX12_init (ao_rm d MC MS) (ao_Q Γ (ao_QV y) MC MS) (ao_dc ρ y.2) (ao_ds ρ y.2) 257 [some (.ref (Γ.2.2.2 + r0))] [.ref (Γ.2.2.2 + q0), .ref (Γ.2.2.2 + q1)] (M, ρ)) := by
  intro n
  induction n with
  | zero => exact ⟨fun _ _ _ _ h => ao_no h, fun _ _ _ _ _ _ h => ao_no h, fun _ _ _ _ h => ao_no h, fun _ _ _ _ _ _ h => ao_no h, fun _ _ _ _ h => ao_no h, fun _ _ _ _ _ _ h => ao_no h, fun _ _ _ _ h => ao_no h, fun _ _ _ _ _ _ h => ao_no h, fun _ _ _ _ h => ao_no h, fun _ _ _ _ _ _ h => ao_no h⟩
  | succ n ih =>
    refine ⟨?_, ?_, ?_, ?_, ?_, ?_, ?_, ?_, ?_, ?_⟩
    · intro r0 M ρ y h
      replace h := ao_ifT h rfl
      refine ao_aload_n 0 dX12_init_220 rfl rfl ?_
      refine ao_bipush (v := 6) dX12_init_221 (by decide) ?_
      obtain ⟨n77, hn77, h⟩ := ao_bind h
      obtain ⟨hb78, h⟩ := ao_some h
      refine ba_newa n77 0 dX12_init_223 rfl (by decide) hn77 lna_0 hb78.1 hb78.2 (ao_dc_nw ((mX12_init_c5 n).2.1 r0 n77 r0 (ao_zr M n77) (ao_nw ρ n77 0 (6 : Int32).toNatClampNeg (6 : Int32).toNatClampNeg) _ h)) ?_
      exact ih.2.1 r0 n77 r0 (ao_zr M n77) (ao_nw ρ n77 0 (6 : Int32).toNatClampNeg (6 : Int32).toNatClampNeg) _ h
    · intro r0 q0 q1 M ρ y h
      replace h := ao_ifF h (by decide)
      replace h := ao_ifT h rfl
      obtain ⟨hk79, h⟩ := ao_some h
      refine ba_putR q1 12 41 (q := (RX12, TX12, 83)) dX12_init_225 rfl hk79 (Nat.le_of_ble_eq_true rfl) lf_X12_223 (Or.inr ⟨rfl, rfl⟩) rfl rfl rfl ?_
      exact ih.2.2.1 r0 M (ao_r ρ q1 41 (some q0)) _ h
    · intro r0 M ρ y h
      replace h := ao_ifF h (by decide)
      replace h := ao_ifF h (by decide)
      replace h := ao_ifT h rfl
      refine ao_aload_n 0 dX12_init_228 rfl rfl ?_
      refine ao_bipush (v := 6) dX12_init_229 (by decide) ?_
      obtain ⟨n80, hn80, h⟩ := ao_bind h
      obtain ⟨hb81, h⟩ := ao_some h
      refine ba_newa n80 0 dX12_init_231 rfl (by decide) hn80 lna_0 hb81.1 hb81.2 (ao_dc_nw ((mX12_init_c5 n).2.2.2.1 r0 n80 r0 (ao_zr M n80) (ao_nw ρ n80 0 (6 : Int32).toNatClampNeg (6 : Int32).toNatClampNeg) _ h)) ?_
      exact ih.2.2.2.1 r0 n80 r0 (ao_zr M n80) (ao_nw ρ n80 0 (6 : Int32).toNatClampNeg (6 : Int32).toNatClampNeg) _ h
    · intro r0 q0 q1 M ρ y h
      replace h := ao_ifF h (by decide)
      replace h := ao_ifF h (by decide)
      replace h := ao_ifF h (by decide)
      replace h := ao_ifT h rfl
      obtain ⟨hk82, h⟩ := ao_some h
      refine ba_putR q1 12 42 (q := (RX12, TX12, 83)) dX12_init_233 rfl hk82 (Nat.le_of_ble_eq_true rfl) lf_X12_226 (Or.inr ⟨rfl, rfl⟩) rfl rfl rfl ?_
      exact ih.2.2.2.2.1 r0 M (ao_r ρ q1 42 (some q0)) _ h
    · intro r0 M ρ y h
      replace h := ao_ifF h (by decide)
      replace h := ao_ifF h (by decide)
      replace h := ao_ifF h (by decide)
      replace h := ao_ifF h (by decide)
      replace h := ao_ifT h rfl
      refine ao_aload_n 0 dX12_init_236 rfl rfl ?_
      refine ao_bipush (v := 72) dX12_init_237 (by decide) ?_
      obtain ⟨n83, hn83, h⟩ := ao_bind h
      obtain ⟨hb84, h⟩ := ao_some h
      refine ba_newa n83 0 dX12_init_239 rfl (by decide) hn83 lna_0 hb84.1 hb84.2 (ao_dc_nw ((mX12_init_c5 n).2.2.2.2.2.1 r0 n83 r0 (ao_zr M n83) (ao_nw ρ n83 0 (72 : Int32).toNatClampNeg (72 : Int32).toNatClampNeg) _ h)) ?_
      exact ih.2.2.2.2.2.1 r0 n83 r0 (ao_zr M n83) (ao_nw ρ n83 0 (72 : Int32).toNatClampNeg (72 : Int32).toNatClampNeg) _ h
    · intro r0 q0 q1 M ρ y h
      replace h := ao_ifF h (by decide)
      replace h := ao_ifF h (by decide)
      replace h := ao_ifF h (by decide)
      replace h := ao_ifF h (by decide)
      replace h := ao_ifF h (by decide)
      replace h := ao_ifT h rfl
      obtain ⟨hk85, h⟩ := ao_some h
      refine ba_putR q1 12 43 (q := (RX12, TX12, 83)) dX12_init_241 rfl hk85 (Nat.le_of_ble_eq_true rfl) lf_X12_229 (Or.inr ⟨rfl, rfl⟩) rfl rfl rfl ?_
      exact ih.2.2.2.2.2.2.1 r0 M (ao_r ρ q1 43 (some q0)) _ h
    · intro r0 M ρ y h
      replace h := ao_ifF h (by decide)
      replace h := ao_ifF h (by decide)
      replace h := ao_ifF h (by decide)
      replace h := ao_ifF h (by decide)
      replace h := ao_ifF h (by decide)
      replace h := ao_ifF h (by decide)
      replace h := ao_ifT h rfl
      refine ao_aload_n 0 dX12_init_244 rfl rfl ?_
      refine ao_bipush (v := 72) dX12_init_245 (by decide) ?_
      obtain ⟨n86, hn86, h⟩ := ao_bind h
      obtain ⟨hb87, h⟩ := ao_some h
      refine ba_newa n86 0 dX12_init_247 rfl (by decide) hn86 lna_0 hb87.1 hb87.2 (ao_dc_nw ((mX12_init_c5 n).2.2.2.2.2.2.2.1 r0 n86 r0 (ao_zr M n86) (ao_nw ρ n86 0 (72 : Int32).toNatClampNeg (72 : Int32).toNatClampNeg) _ h)) ?_
      exact ih.2.2.2.2.2.2.2.1 r0 n86 r0 (ao_zr M n86) (ao_nw ρ n86 0 (72 : Int32).toNatClampNeg (72 : Int32).toNatClampNeg) _ h
    · intro r0 q0 q1 M ρ y h
      replace h := ao_ifF h (by decide)
      replace h := ao_ifF h (by decide)
      replace h := ao_ifF h (by decide)
      replace h := ao_ifF h (by decide)
      replace h := ao_ifF h (by decide)
      replace h := ao_ifF h (by decide)
      replace h := ao_ifF h (by decide)
      replace h := ao_ifT h rfl
      obtain ⟨hk88, h⟩ := ao_some h
      refine ba_putR q1 12 44 (q := (RX12, TX12, 83)) dX12_init_249 rfl hk88 (Nat.le_of_ble_eq_true rfl) lf_X12_232 (Or.inr ⟨rfl, rfl⟩) rfl rfl rfl ?_
      exact ih.2.2.2.2.2.2.2.2.1 r0 M (ao_r ρ q1 44 (some q0)) _ h
    · intro r0 M ρ y h
      replace h := ao_ifF h (by decide)
      replace h := ao_ifF h (by decide)
      replace h := ao_ifF h (by decide)
      replace h := ao_ifF h (by decide)
      replace h := ao_ifF h (by decide)
      replace h := ao_ifF h (by decide)
      replace h := ao_ifF h (by decide)
      replace h := ao_ifF h (by decide)
      replace h := ao_ifT h rfl
      refine ao_aload_n 0 dX12_init_252 rfl rfl ?_
      refine ao_bipush (v := 72) dX12_init_253 (by decide) ?_
      obtain ⟨n89, hn89, h⟩ := ao_bind h
      obtain ⟨hb90, h⟩ := ao_some h
      refine ba_newa n89 0 dX12_init_255 rfl (by decide) hn89 lna_0 hb90.1 hb90.2 (ao_dc_nw ((mX12_init_c5 n).2.2.2.2.2.2.2.2.2 r0 n89 r0 (ao_zr M n89) (ao_nw ρ n89 0 (72 : Int32).toNatClampNeg (72 : Int32).toNatClampNeg) _ h)) ?_
      exact ih.2.2.2.2.2.2.2.2.2 r0 n89 r0 (ao_zr M n89) (ao_nw ρ n89 0 (72 : Int32).toNatClampNeg (72 : Int32).toNatClampNeg) _ h
    · intro r0 q0 q1 M ρ y h
      replace h := ao_ifF h (by decide)
      replace h := ao_ifF h (by decide)
      replace h := ao_ifF h (by decide)
      replace h := ao_ifF h (by decide)
      replace h := ao_ifF h (by decide)
      replace h := ao_ifF h (by decide)
      replace h := ao_ifF h (by decide)
      replace h := ao_ifF h (by decide)
      replace h := ao_ifF h (by decide)
      replace h := ao_ifT h rfl
      obtain ⟨hk91, h⟩ := ao_some h
      refine ba_putR q1 12 45 (q := (RX12, TX12, 83)) dX12_init_257 rfl hk91 (Nat.le_of_ble_eq_true rfl) lf_X12_235 (Or.inr ⟨rfl, rfl⟩) rfl rfl rfl ?_
      exact (wX12_init_c6 d hd MC MS n).1 r0 M (ao_r ρ q1 45 (some q0)) _ h
def fX12_init_c4 : Nat → Nat → Nat → Nat → Nat →  ao_M → ao_H → Option (ao_S)
  | 0, _, _, _, _, _, _ => none
  | n + 1, pc, r0, q0, q1, M, ρ =>
    if pc = 180 then
      (ρ.2.2.2.1).bind fun n62 =>
      if ¬ (6 : Int32) < 0 ∧ (6 : Int32).toNatClampNeg * 8 ≤ 536870912 then
      fX12_init_c4 n 185 r0 n62 r0 (ao_zr M n62) (ao_nw ρ n62 0 (6 : Int32).toNatClampNeg (6 : Int32).toNatClampNeg)
      else none
    else if pc = 185 then
      if ρ.2.1 q1 = 22 then
      fX12_init_c4 n 188 r0 0 0 M (ao_r ρ q1 36 (some q0))
      else none
    else if pc = 188 then
      (ρ.2.2.2.1).bind fun n65 =>
      if ¬ (6 : Int32) < 0 ∧ (6 : Int32).toNatClampNeg * 8 ≤ 536870912 then
      fX12_init_c4 n 193 r0 n65 r0 (ao_zr M n65) (ao_nw ρ n65 0 (6 : Int32).toNatClampNeg (6 : Int32).toNatClampNeg)
      else none
    else if pc = 193 then
      if ρ.2.1 q1 = 22 then
      fX12_init_c4 n 196 r0 0 0 M (ao_r ρ q1 37 (some q0))
      else none
    else if pc = 196 then
      (ρ.2.2.2.1).bind fun n68 =>
      if ¬ (6 : Int32) < 0 ∧ (6 : Int32).toNatClampNeg * 8 ≤ 536870912 then
      fX12_init_c4 n 201 r0 n68 r0 (ao_zr M n68) (ao_nw ρ n68 0 (6 : Int32).toNatClampNeg (6 : Int32).toNatClampNeg)
      else none
    else if pc = 201 then
      if ρ.2.1 q1 = 22 then
      fX12_init_c4 n 204 r0 0 0 M (ao_r ρ q1 38 (some q0))
      else none
    else if pc = 204 then
      (ρ.2.2.2.1).bind fun n71 =>
      if ¬ (6 : Int32) < 0 ∧ (6 : Int32).toNatClampNeg * 8 ≤ 536870912 then
      fX12_init_c4 n 209 r0 n71 r0 (ao_zr M n71) (ao_nw ρ n71 0 (6 : Int32).toNatClampNeg (6 : Int32).toNatClampNeg)
      else none
    else if pc = 209 then
      if ρ.2.1 q1 = 22 then
      fX12_init_c4 n 212 r0 0 0 M (ao_r ρ q1 39 (some q0))
      else none
    else if pc = 212 then
      (ρ.2.2.2.1).bind fun n74 =>
      if ¬ (6 : Int32) < 0 ∧ (6 : Int32).toNatClampNeg * 8 ≤ 536870912 then
      fX12_init_c4 n 217 r0 n74 r0 (ao_zr M n74) (ao_nw ρ n74 0 (6 : Int32).toNatClampNeg (6 : Int32).toNatClampNeg)
      else none
    else if pc = 217 then
      if ρ.2.1 q1 = 22 then
      fX12_init_c5 n 220 r0 0 0 M (ao_r ρ q1 40 (some q0))
      else none
    else none
set_option maxRecDepth 100000 in
set_option maxHeartbeats 4000000 in
theorem mX12_init_c4 : ∀ n : Nat, (∀ (r0 : Nat) (M : ao_M) (ρ : ao_H) (y : ao_S), fX12_init_c4 n 180 r0 0 0 M ρ = some y → ao_le ρ y.2) ∧ (∀ (r0 : Nat) (q0 : Nat) (q1 : Nat) (M : ao_M) (ρ : ao_H) (y : ao_S), fX12_init_c4 n 185 r0 q0 q1 M ρ = some y → ao_le ρ y.2) ∧ (∀ (r0 : Nat) (M : ao_M) (ρ : ao_H) (y : ao_S), fX12_init_c4 n 188 r0 0 0 M ρ = some y → ao_le ρ y.2) ∧ (∀ (r0 : Nat) (q0 : Nat) (q1 : Nat) (M : ao_M) (ρ : ao_H) (y : ao_S), fX12_init_c4 n 193 r0 q0 q1 M ρ = some y → ao_le ρ y.2) ∧ (∀ (r0 : Nat) (M : ao_M) (ρ : ao_H) (y : ao_S), fX12_init_c4 n 196 r0 0 0 M ρ = some y → ao_le ρ y.2) ∧ (∀ (r0 : Nat) (q0 : Nat) (q1 : Nat) (M : ao_M) (ρ : ao_H) (y : ao_S), fX12_init_c4 n 201 r0 q0 q1 M ρ = some y → ao_le ρ y.2) ∧ (∀ (r0 : Nat) (M : ao_M) (ρ : ao_H) (y : ao_S), fX12_init_c4 n 204 r0 0 0 M ρ = some y → ao_le ρ y.2) ∧ (∀ (r0 : Nat) (q0 : Nat) (q1 : Nat) (M : ao_M) (ρ : ao_H) (y : ao_S), fX12_init_c4 n 209 r0 q0 q1 M ρ = some y → ao_le ρ y.2) ∧ (∀ (r0 : Nat) (M : ao_M) (ρ : ao_H) (y : ao_S), fX12_init_c4 n 212 r0 0 0 M ρ = some y → ao_le ρ y.2) ∧ (∀ (r0 : Nat) (q0 : Nat) (q1 : Nat) (M : ao_M) (ρ : ao_H) (y : ao_S), fX12_init_c4 n 217 r0 q0 q1 M ρ = some y → ao_le ρ y.2) := by
  intro n
  induction n with
  | zero => exact ⟨fun _ _ _ _ h => ao_no h, fun _ _ _ _ _ _ h => ao_no h, fun _ _ _ _ h => ao_no h, fun _ _ _ _ _ _ h => ao_no h, fun _ _ _ _ h => ao_no h, fun _ _ _ _ _ _ h => ao_no h, fun _ _ _ _ h => ao_no h, fun _ _ _ _ _ _ h => ao_no h, fun _ _ _ _ h => ao_no h, fun _ _ _ _ _ _ h => ao_no h⟩
  | succ n ih =>
    refine ⟨?_, ?_, ?_, ?_, ?_, ?_, ?_, ?_, ?_, ?_⟩
    · intro r0 M ρ y h
      replace h := ao_ifT h rfl
      obtain ⟨n62, hn62, h⟩ := ao_bind h
      obtain ⟨-, h⟩ := ao_some h
      exact ao_le_tr (ao_le_nw _ _ _ _ _) (ih.2.1 r0 n62 r0 (ao_zr M n62) (ao_nw ρ n62 0 (6 : Int32).toNatClampNeg (6 : Int32).toNatClampNeg) _ h)
    · intro r0 q0 q1 M ρ y h
      replace h := ao_ifF h (by decide)
      replace h := ao_ifT h rfl
      obtain ⟨-, h⟩ := ao_some h
      exact ao_le_tr (ao_le_r _ _ _ _) (ih.2.2.1 r0 M (ao_r ρ q1 36 (some q0)) _ h)
    · intro r0 M ρ y h
      replace h := ao_ifF h (by decide)
      replace h := ao_ifF h (by decide)
      replace h := ao_ifT h rfl
      obtain ⟨n65, hn65, h⟩ := ao_bind h
      obtain ⟨-, h⟩ := ao_some h
      exact ao_le_tr (ao_le_nw _ _ _ _ _) (ih.2.2.2.1 r0 n65 r0 (ao_zr M n65) (ao_nw ρ n65 0 (6 : Int32).toNatClampNeg (6 : Int32).toNatClampNeg) _ h)
    · intro r0 q0 q1 M ρ y h
      replace h := ao_ifF h (by decide)
      replace h := ao_ifF h (by decide)
      replace h := ao_ifF h (by decide)
      replace h := ao_ifT h rfl
      obtain ⟨-, h⟩ := ao_some h
      exact ao_le_tr (ao_le_r _ _ _ _) (ih.2.2.2.2.1 r0 M (ao_r ρ q1 37 (some q0)) _ h)
    · intro r0 M ρ y h
      replace h := ao_ifF h (by decide)
      replace h := ao_ifF h (by decide)
      replace h := ao_ifF h (by decide)
      replace h := ao_ifF h (by decide)
      replace h := ao_ifT h rfl
      obtain ⟨n68, hn68, h⟩ := ao_bind h
      obtain ⟨-, h⟩ := ao_some h
      exact ao_le_tr (ao_le_nw _ _ _ _ _) (ih.2.2.2.2.2.1 r0 n68 r0 (ao_zr M n68) (ao_nw ρ n68 0 (6 : Int32).toNatClampNeg (6 : Int32).toNatClampNeg) _ h)
    · intro r0 q0 q1 M ρ y h
      replace h := ao_ifF h (by decide)
      replace h := ao_ifF h (by decide)
      replace h := ao_ifF h (by decide)
      replace h := ao_ifF h (by decide)
      replace h := ao_ifF h (by decide)
      replace h := ao_ifT h rfl
      obtain ⟨-, h⟩ := ao_some h
      exact ao_le_tr (ao_le_r _ _ _ _) (ih.2.2.2.2.2.2.1 r0 M (ao_r ρ q1 38 (some q0)) _ h)
    · intro r0 M ρ y h
      replace h := ao_ifF h (by decide)
      replace h := ao_ifF h (by decide)
      replace h := ao_ifF h (by decide)
      replace h := ao_ifF h (by decide)
      replace h := ao_ifF h (by decide)
      replace h := ao_ifF h (by decide)
      replace h := ao_ifT h rfl
      obtain ⟨n71, hn71, h⟩ := ao_bind h
      obtain ⟨-, h⟩ := ao_some h
      exact ao_le_tr (ao_le_nw _ _ _ _ _) (ih.2.2.2.2.2.2.2.1 r0 n71 r0 (ao_zr M n71) (ao_nw ρ n71 0 (6 : Int32).toNatClampNeg (6 : Int32).toNatClampNeg) _ h)
    · intro r0 q0 q1 M ρ y h
      replace h := ao_ifF h (by decide)
      replace h := ao_ifF h (by decide)
      replace h := ao_ifF h (by decide)
      replace h := ao_ifF h (by decide)
      replace h := ao_ifF h (by decide)
      replace h := ao_ifF h (by decide)
      replace h := ao_ifF h (by decide)
      replace h := ao_ifT h rfl
      obtain ⟨-, h⟩ := ao_some h
      exact ao_le_tr (ao_le_r _ _ _ _) (ih.2.2.2.2.2.2.2.2.1 r0 M (ao_r ρ q1 39 (some q0)) _ h)
    · intro r0 M ρ y h
      replace h := ao_ifF h (by decide)
      replace h := ao_ifF h (by decide)
      replace h := ao_ifF h (by decide)
      replace h := ao_ifF h (by decide)
      replace h := ao_ifF h (by decide)
      replace h := ao_ifF h (by decide)
      replace h := ao_ifF h (by decide)
      replace h := ao_ifF h (by decide)
      replace h := ao_ifT h rfl
      obtain ⟨n74, hn74, h⟩ := ao_bind h
      obtain ⟨-, h⟩ := ao_some h
      exact ao_le_tr (ao_le_nw _ _ _ _ _) (ih.2.2.2.2.2.2.2.2.2 r0 n74 r0 (ao_zr M n74) (ao_nw ρ n74 0 (6 : Int32).toNatClampNeg (6 : Int32).toNatClampNeg) _ h)
    · intro r0 q0 q1 M ρ y h
      replace h := ao_ifF h (by decide)
      replace h := ao_ifF h (by decide)
      replace h := ao_ifF h (by decide)
      replace h := ao_ifF h (by decide)
      replace h := ao_ifF h (by decide)
      replace h := ao_ifF h (by decide)
      replace h := ao_ifF h (by decide)
      replace h := ao_ifF h (by decide)
      replace h := ao_ifF h (by decide)
      replace h := ao_ifT h rfl
      obtain ⟨-, h⟩ := ao_some h
      exact ao_le_tr (ao_le_r _ _ _ _) ((mX12_init_c5 n).1 r0 M (ao_r ρ q1 40 (some q0)) _ h)
set_option maxRecDepth 100000 in
set_option maxHeartbeats 4000000 in
theorem wX12_init_c4 {Γ : ao_C} (d : Nat) (hd : 5 ≤ d) (MC MS : Nat) : ∀ n : Nat, (∀ (r0 : Nat) (M : ao_M) (ρ : ao_H) (y : ao_S), fX12_init_c4 n 180 r0 0 0 M ρ = some y → ao_W Γ uX12_init (ao_rm d MC MS) (ao_Q Γ (ao_QV y) MC MS) (ao_dc ρ y.2) (ao_ds ρ y.2) 180 [some (.ref (Γ.2.2.2 + r0))] [] (M, ρ)) ∧ (∀ (r0 : Nat) (q0 : Nat) (q1 : Nat) (M : ao_M) (ρ : ao_H) (y : ao_S), fX12_init_c4 n 185 r0 q0 q1 M ρ = some y → ao_W Γ uX12_init (ao_rm d MC MS) (ao_Q Γ (ao_QV y) MC MS) (ao_dc ρ y.2) (ao_ds ρ y.2) 185 [some (.ref (Γ.2.2.2 + r0))] [.ref (Γ.2.2.2 + q0), .ref (Γ.2.2.2 + q1)] (M, ρ)) ∧ (∀ (r0 : Nat) (M : ao_M) (ρ : ao_H) (y : ao_S), fX12_init_c4 n 188 r0 0 0 M ρ = some y → ao_W Γ uX12_init (ao_rm d MC MS) (ao_Q Γ (ao_QV y) MC MS) (ao_dc ρ y.2) (ao_ds ρ y.2) 188 [some (.ref (Γ.2.2.2 + r0))] [] (M, ρ)) ∧ (∀ (r0 : Nat) (q0 : Nat) (q1 : Nat) (M : ao_M) (ρ : ao_H) (y : ao_S), fX12_init_c4 n 193 r0 q0 q1 M ρ = some y → ao_W Γ uX12_init (ao_rm d MC MS) (ao_Q Γ (ao_QV y) MC MS) (ao_dc ρ y.2) (ao_ds ρ y.2) 193 [some (.ref (Γ.2.2.2 + r0))] [.ref (Γ.2.2.2 + q0), .ref (Γ.2.2.2 + q1)] (M, ρ)) ∧ (∀ (r0 : Nat) (M : ao_M) (ρ : ao_H) (y : ao_S), fX12_init_c4 n 196 r0 0 0 M ρ = some y → ao_W Γ uX12_init (ao_rm d MC MS) (ao_Q Γ (ao_QV y) MC MS) (ao_dc ρ y.2) (ao_ds ρ y.2) 196 [some (.ref (Γ.2.2.2 + r0))] [] (M, ρ)) ∧ (∀ (r0 : Nat) (q0 : Nat) (q1 : Nat) (M : ao_M) (ρ : ao_H) (y : ao_S), fX12_init_c4 n 201 r0 q0 q1 M ρ = some y → ao_W Γ uX12_init (ao_rm d MC MS) (ao_Q Γ (ao_QV y) MC MS) (ao_dc ρ y.2) (ao_ds ρ y.2) 201 [some (.ref (Γ.2.2.2 + r0))] [.ref (Γ.2.2.2 + q0), .ref (Γ.2.2.2 + q1)] (M, ρ)) ∧ (∀ (r0 : Nat) (M : ao_M) (ρ : ao_H) (y : ao_S), fX12_init_c4 n 204 r0 0 0 M ρ = some y → ao_W Γ uX12_init (ao_rm d MC MS) (ao_Q Γ (ao_QV y) MC MS) (ao_dc ρ y.2) (ao_ds ρ y.2) 204 [some (.ref (Γ.2.2.2 + r0))] [] (M, ρ)) ∧ (∀ (r0 : Nat) (q0 : Nat) (q1 : Nat) (M : ao_M) (ρ : ao_H) (y : ao_S), fX12_init_c4 n 209 r0 q0 q1 M ρ = some y → ao_W Γ uX12_init (ao_rm d MC MS) (ao_Q Γ (ao_QV y) MC MS) (ao_dc ρ y.2) (ao_ds ρ y.2) 209 [some (.ref (Γ.2.2.2 + r0))] [.ref (Γ.2.2.2 + q0), .ref (Γ.2.2.2 + q1)] (M, ρ)) ∧ (∀ (r0 : Nat) (M : ao_M) (ρ : ao_H) (y : ao_S), fX12_init_c4 n 212 r0 0 0 M ρ = some y → ao_W Γ uX12_init (ao_rm d MC MS) (ao_Q Γ (ao_QV y) MC MS) (ao_dc ρ y.2) (ao_ds ρ y.2) 212 [some (.ref (Γ.2.2.2 + r0))] [] (M, ρ)) ∧ (∀ (r0 : Nat) (q0 : Nat) (q1 : Nat) (M : ao_M) (ρ : ao_H) (y : ao_S), fX12_init_c4 n 217 r0 q0 q1 M ρ = some y → ao_W Γ uX12_init (ao_rm d MC MS) (ao_Q Γ (ao_QV y) MC MS) (ao_dc ρ y.2) (ao_ds ρ y.2) 217 [some (.ref (Γ.2.2.2 + r0))] [.ref (Γ.2.2.2 + q0), .ref (Γ.2.2.2 + q1)] (M, ρ)) := by
  intro n
  induction n with
  | zero => exact ⟨fun _ _ _ _ h => ao_no h, fun _ _ _ _ _ _ h => ao_no h, fun _ _ _ _ h => ao_no h, fun _ _ _ _ _ _ h => ao_no h, fun _ _ _ _ h => ao_no h, fun _ _ _ _ _ _ h => ao_no h, fun _ _ _ _ h => ao_no h, fun _ _ _ _ _ _ h => ao_no h, fun _ _ _ _ h => ao_no h, fun _ _ _ _ _ _ h => ao_no h⟩
  | succ n ih =>
    refine ⟨?_, ?_, ?_, ?_, ?_, ?_, ?_, ?_, ?_, ?_⟩
    · intro r0 M ρ y h
      replace h := ao_ifT h rfl
      refine ao_aload_n 0 dX12_init_180 rfl rfl ?_
      refine ao_bipush (v := 6) dX12_init_181 (by decide) ?_
      obtain ⟨n62, hn62, h⟩ := ao_bind h
      obtain ⟨hb63, h⟩ := ao_some h
      refine ba_newa n62 0 dX12_init_183 rfl (by decide) hn62 lna_0 hb63.1 hb63.2 (ao_dc_nw ((mX12_init_c4 n).2.1 r0 n62 r0 (ao_zr M n62) (ao_nw ρ n62 0 (6 : Int32).toNatClampNeg (6 : Int32).toNatClampNeg) _ h)) ?_
      exact ih.2.1 r0 n62 r0 (ao_zr M n62) (ao_nw ρ n62 0 (6 : Int32).toNatClampNeg (6 : Int32).toNatClampNeg) _ h
    · intro r0 q0 q1 M ρ y h
      replace h := ao_ifF h (by decide)
      replace h := ao_ifT h rfl
      obtain ⟨hk64, h⟩ := ao_some h
      refine ba_putR q1 12 36 (q := (RX12, TX12, 83)) dX12_init_185 rfl hk64 (Nat.le_of_ble_eq_true rfl) lf_X12_208 (Or.inr ⟨rfl, rfl⟩) rfl rfl rfl ?_
      exact ih.2.2.1 r0 M (ao_r ρ q1 36 (some q0)) _ h
    · intro r0 M ρ y h
      replace h := ao_ifF h (by decide)
      replace h := ao_ifF h (by decide)
      replace h := ao_ifT h rfl
      refine ao_aload_n 0 dX12_init_188 rfl rfl ?_
      refine ao_bipush (v := 6) dX12_init_189 (by decide) ?_
      obtain ⟨n65, hn65, h⟩ := ao_bind h
      obtain ⟨hb66, h⟩ := ao_some h
      refine ba_newa n65 0 dX12_init_191 rfl (by decide) hn65 lna_0 hb66.1 hb66.2 (ao_dc_nw ((mX12_init_c4 n).2.2.2.1 r0 n65 r0 (ao_zr M n65) (ao_nw ρ n65 0 (6 : Int32).toNatClampNeg (6 : Int32).toNatClampNeg) _ h)) ?_
      exact ih.2.2.2.1 r0 n65 r0 (ao_zr M n65) (ao_nw ρ n65 0 (6 : Int32).toNatClampNeg (6 : Int32).toNatClampNeg) _ h
    · intro r0 q0 q1 M ρ y h
      replace h := ao_ifF h (by decide)
      replace h := ao_ifF h (by decide)
      replace h := ao_ifF h (by decide)
      replace h := ao_ifT h rfl
      obtain ⟨hk67, h⟩ := ao_some h
      refine ba_putR q1 12 37 (q := (RX12, TX12, 83)) dX12_init_193 rfl hk67 (Nat.le_of_ble_eq_true rfl) lf_X12_211 (Or.inr ⟨rfl, rfl⟩) rfl rfl rfl ?_
      exact ih.2.2.2.2.1 r0 M (ao_r ρ q1 37 (some q0)) _ h
    · intro r0 M ρ y h
      replace h := ao_ifF h (by decide)
      replace h := ao_ifF h (by decide)
      replace h := ao_ifF h (by decide)
      replace h := ao_ifF h (by decide)
      replace h := ao_ifT h rfl
      refine ao_aload_n 0 dX12_init_196 rfl rfl ?_
      refine ao_bipush (v := 6) dX12_init_197 (by decide) ?_
      obtain ⟨n68, hn68, h⟩ := ao_bind h
      obtain ⟨hb69, h⟩ := ao_some h
      refine ba_newa n68 0 dX12_init_199 rfl (by decide) hn68 lna_0 hb69.1 hb69.2 (ao_dc_nw ((mX12_init_c4 n).2.2.2.2.2.1 r0 n68 r0 (ao_zr M n68) (ao_nw ρ n68 0 (6 : Int32).toNatClampNeg (6 : Int32).toNatClampNeg) _ h)) ?_
      exact ih.2.2.2.2.2.1 r0 n68 r0 (ao_zr M n68) (ao_nw ρ n68 0 (6 : Int32).toNatClampNeg (6 : Int32).toNatClampNeg) _ h
    · intro r0 q0 q1 M ρ y h
      replace h := ao_ifF h (by decide)
      replace h := ao_ifF h (by decide)
      replace h := ao_ifF h (by decide)
      replace h := ao_ifF h (by decide)
      replace h := ao_ifF h (by decide)
      replace h := ao_ifT h rfl
      obtain ⟨hk70, h⟩ := ao_some h
      refine ba_putR q1 12 38 (q := (RX12, TX12, 83)) dX12_init_201 rfl hk70 (Nat.le_of_ble_eq_true rfl) lf_X12_214 (Or.inr ⟨rfl, rfl⟩) rfl rfl rfl ?_
      exact ih.2.2.2.2.2.2.1 r0 M (ao_r ρ q1 38 (some q0)) _ h
    · intro r0 M ρ y h
      replace h := ao_ifF h (by decide)
      replace h := ao_ifF h (by decide)
      replace h := ao_ifF h (by decide)
      replace h := ao_ifF h (by decide)
      replace h := ao_ifF h (by decide)
      replace h := ao_ifF h (by decide)
      replace h := ao_ifT h rfl
      refine ao_aload_n 0 dX12_init_204 rfl rfl ?_
      refine ao_bipush (v := 6) dX12_init_205 (by decide) ?_
      obtain ⟨n71, hn71, h⟩ := ao_bind h
      obtain ⟨hb72, h⟩ := ao_some h
      refine ba_newa n71 0 dX12_init_207 rfl (by decide) hn71 lna_0 hb72.1 hb72.2 (ao_dc_nw ((mX12_init_c4 n).2.2.2.2.2.2.2.1 r0 n71 r0 (ao_zr M n71) (ao_nw ρ n71 0 (6 : Int32).toNatClampNeg (6 : Int32).toNatClampNeg) _ h)) ?_
      exact ih.2.2.2.2.2.2.2.1 r0 n71 r0 (ao_zr M n71) (ao_nw ρ n71 0 (6 : Int32).toNatClampNeg (6 : Int32).toNatClampNeg) _ h
    · intro r0 q0 q1 M ρ y h
      replace h := ao_ifF h (by decide)
      replace h := ao_ifF h (by decide)
      replace h := ao_ifF h (by decide)
      replace h := ao_ifF h (by decide)
      replace h := ao_ifF h (by decide)
      replace h := ao_ifF h (by decide)
      replace h := ao_ifF h (by decide)
      replace h := ao_ifT h rfl
      obtain ⟨hk73, h⟩ := ao_some h
      refine ba_putR q1 12 39 (q := (RX12, TX12, 83)) dX12_init_209 rfl hk73 (Nat.le_of_ble_eq_true rfl) lf_X12_217 (Or.inr ⟨rfl, rfl⟩) rfl rfl rfl ?_
      exact ih.2.2.2.2.2.2.2.2.1 r0 M (ao_r ρ q1 39 (some q0)) _ h
    · intro r0 M ρ y h
      replace h := ao_ifF h (by decide)
      replace h := ao_ifF h (by decide)
      replace h := ao_ifF h (by decide)
      replace h := ao_ifF h (by decide)
      replace h := ao_ifF h (by decide)
      replace h := ao_ifF h (by decide)
      replace h := ao_ifF h (by decide)
      replace h := ao_ifF h (by decide)
      replace h := ao_ifT h rfl
      refine ao_aload_n 0 dX12_init_212 rfl rfl ?_
      refine ao_bipush (v := 6) dX12_init_213 (by decide) ?_
      obtain ⟨n74, hn74, h⟩ := ao_bind h
      obtain ⟨hb75, h⟩ := ao_some h
      refine ba_newa n74 0 dX12_init_215 rfl (by decide) hn74 lna_0 hb75.1 hb75.2 (ao_dc_nw ((mX12_init_c4 n).2.2.2.2.2.2.2.2.2 r0 n74 r0 (ao_zr M n74) (ao_nw ρ n74 0 (6 : Int32).toNatClampNeg (6 : Int32).toNatClampNeg) _ h)) ?_
      exact ih.2.2.2.2.2.2.2.2.2 r0 n74 r0 (ao_zr M n74) (ao_nw ρ n74 0 (6 : Int32).toNatClampNeg (6 : Int32).toNatClampNeg) _ h
    · intro r0 q0 q1 M ρ y h
      replace h := ao_ifF h (by decide)
      replace h := ao_ifF h (by decide)
      replace h := ao_ifF h (by decide)
      replace h := ao_ifF h (by decide)
      replace h := ao_ifF h (by decide)
      replace h := ao_ifF h (by decide)
      replace h := ao_ifF h (by decide)
      replace h := ao_ifF h (by decide)
      replace h := ao_ifF h (by decide)
      replace h := ao_ifT h rfl
      obtain ⟨hk76, h⟩ := ao_some h
      refine ba_putR q1 12 40 (q := (RX12, TX12, 83)) dX12_init_217 rfl hk76 (Nat.le_of_ble_eq_true rfl) lf_X12_220 (Or.inr ⟨rfl, rfl⟩) rfl rfl rfl ?_
      exact (wX12_init_c5 d hd MC MS n).1 r0 M (ao_r ρ q1 40 (some q0)) _ h
def fX12_init_c3 : Nat → Nat → Nat → Nat → Nat →  ao_M → ao_H → Option (ao_S)
  | 0, _, _, _, _, _, _ => none
  | n + 1, pc, r0, q0, q1, M, ρ =>
    if pc = 138 then
      (ρ.2.2.2.1).bind fun n47 =>
      if ¬ (156 : Int32) < 0 ∧ (156 : Int32).toNatClampNeg * 8 ≤ 536870912 then
      fX12_init_c3 n 144 r0 n47 r0 (ao_zr M n47) (ao_nw ρ n47 0 (156 : Int32).toNatClampNeg (156 : Int32).toNatClampNeg)
      else none
    else if pc = 144 then
      if ρ.2.1 q1 = 22 then
      fX12_init_c3 n 147 r0 0 0 M (ao_r ρ q1 31 (some q0))
      else none
    else if pc = 147 then
      (ρ.2.2.2.1).bind fun n50 =>
      if ¬ (384 : Int32) < 0 ∧ (384 : Int32).toNatClampNeg * 8 ≤ 536870912 then
      fX12_init_c3 n 153 r0 n50 r0 (ao_zr M n50) (ao_nw ρ n50 0 (384 : Int32).toNatClampNeg (384 : Int32).toNatClampNeg)
      else none
    else if pc = 153 then
      if ρ.2.1 q1 = 22 then
      fX12_init_c3 n 156 r0 0 0 M (ao_r ρ q1 32 (some q0))
      else none
    else if pc = 156 then
      (ρ.2.2.2.1).bind fun n53 =>
      if ¬ (6 : Int32) < 0 ∧ (6 : Int32).toNatClampNeg * 8 ≤ 536870912 then
      fX12_init_c3 n 161 r0 n53 r0 (ao_zr M n53) (ao_nw ρ n53 0 (6 : Int32).toNatClampNeg (6 : Int32).toNatClampNeg)
      else none
    else if pc = 161 then
      if ρ.2.1 q1 = 22 then
      fX12_init_c3 n 164 r0 0 0 M (ao_r ρ q1 33 (some q0))
      else none
    else if pc = 164 then
      (ρ.2.2.2.1).bind fun n56 =>
      if ¬ (6 : Int32) < 0 ∧ (6 : Int32).toNatClampNeg * 8 ≤ 536870912 then
      fX12_init_c3 n 169 r0 n56 r0 (ao_zr M n56) (ao_nw ρ n56 0 (6 : Int32).toNatClampNeg (6 : Int32).toNatClampNeg)
      else none
    else if pc = 169 then
      if ρ.2.1 q1 = 22 then
      fX12_init_c3 n 172 r0 0 0 M (ao_r ρ q1 34 (some q0))
      else none
    else if pc = 172 then
      (ρ.2.2.2.1).bind fun n59 =>
      if ¬ (6 : Int32) < 0 ∧ (6 : Int32).toNatClampNeg * 8 ≤ 536870912 then
      fX12_init_c3 n 177 r0 n59 r0 (ao_zr M n59) (ao_nw ρ n59 0 (6 : Int32).toNatClampNeg (6 : Int32).toNatClampNeg)
      else none
    else if pc = 177 then
      if ρ.2.1 q1 = 22 then
      fX12_init_c4 n 180 r0 0 0 M (ao_r ρ q1 35 (some q0))
      else none
    else none
set_option maxRecDepth 100000 in
set_option maxHeartbeats 4000000 in
theorem mX12_init_c3 : ∀ n : Nat, (∀ (r0 : Nat) (M : ao_M) (ρ : ao_H) (y : ao_S), fX12_init_c3 n 138 r0 0 0 M ρ = some y → ao_le ρ y.2) ∧ (∀ (r0 : Nat) (q0 : Nat) (q1 : Nat) (M : ao_M) (ρ : ao_H) (y : ao_S), fX12_init_c3 n 144 r0 q0 q1 M ρ = some y → ao_le ρ y.2) ∧ (∀ (r0 : Nat) (M : ao_M) (ρ : ao_H) (y : ao_S), fX12_init_c3 n 147 r0 0 0 M ρ = some y → ao_le ρ y.2) ∧ (∀ (r0 : Nat) (q0 : Nat) (q1 : Nat) (M : ao_M) (ρ : ao_H) (y : ao_S), fX12_init_c3 n 153 r0 q0 q1 M ρ = some y → ao_le ρ y.2) ∧ (∀ (r0 : Nat) (M : ao_M) (ρ : ao_H) (y : ao_S), fX12_init_c3 n 156 r0 0 0 M ρ = some y → ao_le ρ y.2) ∧ (∀ (r0 : Nat) (q0 : Nat) (q1 : Nat) (M : ao_M) (ρ : ao_H) (y : ao_S), fX12_init_c3 n 161 r0 q0 q1 M ρ = some y → ao_le ρ y.2) ∧ (∀ (r0 : Nat) (M : ao_M) (ρ : ao_H) (y : ao_S), fX12_init_c3 n 164 r0 0 0 M ρ = some y → ao_le ρ y.2) ∧ (∀ (r0 : Nat) (q0 : Nat) (q1 : Nat) (M : ao_M) (ρ : ao_H) (y : ao_S), fX12_init_c3 n 169 r0 q0 q1 M ρ = some y → ao_le ρ y.2) ∧ (∀ (r0 : Nat) (M : ao_M) (ρ : ao_H) (y : ao_S), fX12_init_c3 n 172 r0 0 0 M ρ = some y → ao_le ρ y.2) ∧ (∀ (r0 : Nat) (q0 : Nat) (q1 : Nat) (M : ao_M) (ρ : ao_H) (y : ao_S), fX12_init_c3 n 177 r0 q0 q1 M ρ = some y → ao_le ρ y.2) := by
  intro n
  induction n with
  | zero => exact ⟨fun _ _ _ _ h => ao_no h, fun _ _ _ _ _ _ h => ao_no h, fun _ _ _ _ h => ao_no h, fun _ _ _ _ _ _ h => ao_no h, fun _ _ _ _ h => ao_no h, fun _ _ _ _ _ _ h => ao_no h, fun _ _ _ _ h => ao_no h, fun _ _ _ _ _ _ h => ao_no h, fun _ _ _ _ h => ao_no h, fun _ _ _ _ _ _ h => ao_no h⟩
  | succ n ih =>
    refine ⟨?_, ?_, ?_, ?_, ?_, ?_, ?_, ?_, ?_, ?_⟩
    · intro r0 M ρ y h
      replace h := ao_ifT h rfl
      obtain ⟨n47, hn47, h⟩ := ao_bind h
      obtain ⟨-, h⟩ := ao_some h
      exact ao_le_tr (ao_le_nw _ _ _ _ _) (ih.2.1 r0 n47 r0 (ao_zr M n47) (ao_nw ρ n47 0 (156 : Int32).toNatClampNeg (156 : Int32).toNatClampNeg) _ h)
    · intro r0 q0 q1 M ρ y h
      replace h := ao_ifF h (by decide)
      replace h := ao_ifT h rfl
      obtain ⟨-, h⟩ := ao_some h
      exact ao_le_tr (ao_le_r _ _ _ _) (ih.2.2.1 r0 M (ao_r ρ q1 31 (some q0)) _ h)
    · intro r0 M ρ y h
      replace h := ao_ifF h (by decide)
      replace h := ao_ifF h (by decide)
      replace h := ao_ifT h rfl
      obtain ⟨n50, hn50, h⟩ := ao_bind h
      obtain ⟨-, h⟩ := ao_some h
      exact ao_le_tr (ao_le_nw _ _ _ _ _) (ih.2.2.2.1 r0 n50 r0 (ao_zr M n50) (ao_nw ρ n50 0 (384 : Int32).toNatClampNeg (384 : Int32).toNatClampNeg) _ h)
    · intro r0 q0 q1 M ρ y h
      replace h := ao_ifF h (by decide)
      replace h := ao_ifF h (by decide)
      replace h := ao_ifF h (by decide)
      replace h := ao_ifT h rfl
      obtain ⟨-, h⟩ := ao_some h
      exact ao_le_tr (ao_le_r _ _ _ _) (ih.2.2.2.2.1 r0 M (ao_r ρ q1 32 (some q0)) _ h)
    · intro r0 M ρ y h
      replace h := ao_ifF h (by decide)
      replace h := ao_ifF h (by decide)
      replace h := ao_ifF h (by decide)
      replace h := ao_ifF h (by decide)
      replace h := ao_ifT h rfl
      obtain ⟨n53, hn53, h⟩ := ao_bind h
      obtain ⟨-, h⟩ := ao_some h
      exact ao_le_tr (ao_le_nw _ _ _ _ _) (ih.2.2.2.2.2.1 r0 n53 r0 (ao_zr M n53) (ao_nw ρ n53 0 (6 : Int32).toNatClampNeg (6 : Int32).toNatClampNeg) _ h)
    · intro r0 q0 q1 M ρ y h
      replace h := ao_ifF h (by decide)
      replace h := ao_ifF h (by decide)
      replace h := ao_ifF h (by decide)
      replace h := ao_ifF h (by decide)
      replace h := ao_ifF h (by decide)
      replace h := ao_ifT h rfl
      obtain ⟨-, h⟩ := ao_some h
      exact ao_le_tr (ao_le_r _ _ _ _) (ih.2.2.2.2.2.2.1 r0 M (ao_r ρ q1 33 (some q0)) _ h)
    · intro r0 M ρ y h
      replace h := ao_ifF h (by decide)
      replace h := ao_ifF h (by decide)
      replace h := ao_ifF h (by decide)
      replace h := ao_ifF h (by decide)
      replace h := ao_ifF h (by decide)
      replace h := ao_ifF h (by decide)
      replace h := ao_ifT h rfl
      obtain ⟨n56, hn56, h⟩ := ao_bind h
      obtain ⟨-, h⟩ := ao_some h
      exact ao_le_tr (ao_le_nw _ _ _ _ _) (ih.2.2.2.2.2.2.2.1 r0 n56 r0 (ao_zr M n56) (ao_nw ρ n56 0 (6 : Int32).toNatClampNeg (6 : Int32).toNatClampNeg) _ h)
    · intro r0 q0 q1 M ρ y h
      replace h := ao_ifF h (by decide)
      replace h := ao_ifF h (by decide)
      replace h := ao_ifF h (by decide)
      replace h := ao_ifF h (by decide)
      replace h := ao_ifF h (by decide)
      replace h := ao_ifF h (by decide)
      replace h := ao_ifF h (by decide)
      replace h := ao_ifT h rfl
      obtain ⟨-, h⟩ := ao_some h
      exact ao_le_tr (ao_le_r _ _ _ _) (ih.2.2.2.2.2.2.2.2.1 r0 M (ao_r ρ q1 34 (some q0)) _ h)
    · intro r0 M ρ y h
      replace h := ao_ifF h (by decide)
      replace h := ao_ifF h (by decide)
      replace h := ao_ifF h (by decide)
      replace h := ao_ifF h (by decide)
      replace h := ao_ifF h (by decide)
      replace h := ao_ifF h (by decide)
      replace h := ao_ifF h (by decide)
      replace h := ao_ifF h (by decide)
      replace h := ao_ifT h rfl
      obtain ⟨n59, hn59, h⟩ := ao_bind h
      obtain ⟨-, h⟩ := ao_some h
      exact ao_le_tr (ao_le_nw _ _ _ _ _) (ih.2.2.2.2.2.2.2.2.2 r0 n59 r0 (ao_zr M n59) (ao_nw ρ n59 0 (6 : Int32).toNatClampNeg (6 : Int32).toNatClampNeg) _ h)
    · intro r0 q0 q1 M ρ y h
      replace h := ao_ifF h (by decide)
      replace h := ao_ifF h (by decide)
      replace h := ao_ifF h (by decide)
      replace h := ao_ifF h (by decide)
      replace h := ao_ifF h (by decide)
      replace h := ao_ifF h (by decide)
      replace h := ao_ifF h (by decide)
      replace h := ao_ifF h (by decide)
      replace h := ao_ifF h (by decide)
      replace h := ao_ifT h rfl
      obtain ⟨-, h⟩ := ao_some h
      exact ao_le_tr (ao_le_r _ _ _ _) ((mX12_init_c4 n).1 r0 M (ao_r ρ q1 35 (some q0)) _ h)
set_option maxRecDepth 100000 in
set_option maxHeartbeats 4000000 in
theorem wX12_init_c3 {Γ : ao_C} (d : Nat) (hd : 5 ≤ d) (MC MS : Nat) : ∀ n : Nat, (∀ (r0 : Nat) (M : ao_M) (ρ : ao_H) (y : ao_S), fX12_init_c3 n 138 r0 0 0 M ρ = some y → ao_W Γ uX12_init (ao_rm d MC MS) (ao_Q Γ (ao_QV y) MC MS) (ao_dc ρ y.2) (ao_ds ρ y.2) 138 [some (.ref (Γ.2.2.2 + r0))] [] (M, ρ)) ∧ (∀ (r0 : Nat) (q0 : Nat) (q1 : Nat) (M : ao_M) (ρ : ao_H) (y : ao_S), fX12_init_c3 n 144 r0 q0 q1 M ρ = some y → ao_W Γ uX12_init (ao_rm d MC MS) (ao_Q Γ (ao_QV y) MC MS) (ao_dc ρ y.2) (ao_ds ρ y.2) 144 [some (.ref (Γ.2.2.2 + r0))] [.ref (Γ.2.2.2 + q0), .ref (Γ.2.2.2 + q1)] (M, ρ)) ∧ (∀ (r0 : Nat) (M : ao_M) (ρ : ao_H) (y : ao_S), fX12_init_c3 n 147 r0 0 0 M ρ = some y → ao_W Γ uX12_init (ao_rm d MC MS) (ao_Q Γ (ao_QV y) MC MS) (ao_dc ρ y.2) (ao_ds ρ y.2) 147 [some (.ref (Γ.2.2.2 + r0))] [] (M, ρ)) ∧ (∀ (r0 : Nat) (q0 : Nat) (q1 : Nat) (M : ao_M) (ρ : ao_H) (y : ao_S), fX12_init_c3 n 153 r0 q0 q1 M ρ = some y → ao_W Γ uX12_init (ao_rm d MC MS) (ao_Q Γ (ao_QV y) MC MS) (ao_dc ρ y.2) (ao_ds ρ y.2) 153 [some (.ref (Γ.2.2.2 + r0))] [.ref (Γ.2.2.2 + q0), .ref (Γ.2.2.2 + q1)] (M, ρ)) ∧ (∀ (r0 : Nat) (M : ao_M) (ρ : ao_H) (y : ao_S), fX12_init_c3 n 156 r0 0 0 M ρ = some y → ao_W Γ uX12_init (ao_rm d MC MS) (ao_Q Γ (ao_QV y) MC MS) (ao_dc ρ y.2) (ao_ds ρ y.2) 156 [some (.ref (Γ.2.2.2 + r0))] [] (M, ρ)) ∧ (∀ (r0 : Nat) (q0 : Nat) (q1 : Nat) (M : ao_M) (ρ : ao_H) (y : ao_S), fX12_init_c3 n 161 r0 q0 q1 M ρ = some y → ao_W Γ uX12_init (ao_rm d MC MS) (ao_Q Γ (ao_QV y) MC MS) (ao_dc ρ y.2) (ao_ds ρ y.2) 161 [some (.ref (Γ.2.2.2 + r0))] [.ref (Γ.2.2.2 + q0), .ref (Γ.2.2.2 + q1)] (M, ρ)) ∧ (∀ (r0 : Nat) (M : ao_M) (ρ : ao_H) (y : ao_S), fX12_init_c3 n 164 r0 0 0 M ρ = some y → ao_W Γ uX12_init (ao_rm d MC MS) (ao_Q Γ (ao_QV y) MC MS) (ao_dc ρ y.2) (ao_ds ρ y.2) 164 [some (.ref (Γ.2.2.2 + r0))] [] (M, ρ)) ∧ (∀ (r0 : Nat) (q0 : Nat) (q1 : Nat) (M : ao_M) (ρ : ao_H) (y : ao_S), fX12_init_c3 n 169 r0 q0 q1 M ρ = some y → ao_W Γ uX12_init (ao_rm d MC MS) (ao_Q Γ (ao_QV y) MC MS) (ao_dc ρ y.2) (ao_ds ρ y.2) 169 [some (.ref (Γ.2.2.2 + r0))] [.ref (Γ.2.2.2 + q0), .ref (Γ.2.2.2 + q1)] (M, ρ)) ∧ (∀ (r0 : Nat) (M : ao_M) (ρ : ao_H) (y : ao_S), fX12_init_c3 n 172 r0 0 0 M ρ = some y → ao_W Γ uX12_init (ao_rm d MC MS) (ao_Q Γ (ao_QV y) MC MS) (ao_dc ρ y.2) (ao_ds ρ y.2) 172 [some (.ref (Γ.2.2.2 + r0))] [] (M, ρ)) ∧ (∀ (r0 : Nat) (q0 : Nat) (q1 : Nat) (M : ao_M) (ρ : ao_H) (y : ao_S), fX12_init_c3 n 177 r0 q0 q1 M ρ = some y → ao_W Γ uX12_init (ao_rm d MC MS) (ao_Q Γ (ao_QV y) MC MS) (ao_dc ρ y.2) (ao_ds ρ y.2) 177 [some (.ref (Γ.2.2.2 + r0))] [.ref (Γ.2.2.2 + q0), .ref (Γ.2.2.2 + q1)] (M, ρ)) := by
  intro n
  induction n with
  | zero => exact ⟨fun _ _ _ _ h => ao_no h, fun _ _ _ _ _ _ h => ao_no h, fun _ _ _ _ h => ao_no h, fun _ _ _ _ _ _ h => ao_no h, fun _ _ _ _ h => ao_no h, fun _ _ _ _ _ _ h => ao_no h, fun _ _ _ _ h => ao_no h, fun _ _ _ _ _ _ h => ao_no h, fun _ _ _ _ h => ao_no h, fun _ _ _ _ _ _ h => ao_no h⟩
  | succ n ih =>
    refine ⟨?_, ?_, ?_, ?_, ?_, ?_, ?_, ?_, ?_, ?_⟩
    · intro r0 M ρ y h
      replace h := ao_ifT h rfl
      refine ao_aload_n 0 dX12_init_138 rfl rfl ?_
      refine ao_sipush (v := 156) dX12_init_139 (by decide) ?_
      obtain ⟨n47, hn47, h⟩ := ao_bind h
      obtain ⟨hb48, h⟩ := ao_some h
      refine ba_newa n47 0 dX12_init_142 rfl (by decide) hn47 lna_0 hb48.1 hb48.2 (ao_dc_nw ((mX12_init_c3 n).2.1 r0 n47 r0 (ao_zr M n47) (ao_nw ρ n47 0 (156 : Int32).toNatClampNeg (156 : Int32).toNatClampNeg) _ h)) ?_
      exact ih.2.1 r0 n47 r0 (ao_zr M n47) (ao_nw ρ n47 0 (156 : Int32).toNatClampNeg (156 : Int32).toNatClampNeg) _ h
    · intro r0 q0 q1 M ρ y h
      replace h := ao_ifF h (by decide)
      replace h := ao_ifT h rfl
      obtain ⟨hk49, h⟩ := ao_some h
      refine ba_putR q1 12 31 (q := (RX12, TX12, 83)) dX12_init_144 rfl hk49 (Nat.le_of_ble_eq_true rfl) lf_X12_193 (Or.inr ⟨rfl, rfl⟩) rfl rfl rfl ?_
      exact ih.2.2.1 r0 M (ao_r ρ q1 31 (some q0)) _ h
    · intro r0 M ρ y h
      replace h := ao_ifF h (by decide)
      replace h := ao_ifF h (by decide)
      replace h := ao_ifT h rfl
      refine ao_aload_n 0 dX12_init_147 rfl rfl ?_
      refine ao_sipush (v := 384) dX12_init_148 (by decide) ?_
      obtain ⟨n50, hn50, h⟩ := ao_bind h
      obtain ⟨hb51, h⟩ := ao_some h
      refine ba_newa n50 0 dX12_init_151 rfl (by decide) hn50 lna_0 hb51.1 hb51.2 (ao_dc_nw ((mX12_init_c3 n).2.2.2.1 r0 n50 r0 (ao_zr M n50) (ao_nw ρ n50 0 (384 : Int32).toNatClampNeg (384 : Int32).toNatClampNeg) _ h)) ?_
      exact ih.2.2.2.1 r0 n50 r0 (ao_zr M n50) (ao_nw ρ n50 0 (384 : Int32).toNatClampNeg (384 : Int32).toNatClampNeg) _ h
    · intro r0 q0 q1 M ρ y h
      replace h := ao_ifF h (by decide)
      replace h := ao_ifF h (by decide)
      replace h := ao_ifF h (by decide)
      replace h := ao_ifT h rfl
      obtain ⟨hk52, h⟩ := ao_some h
      refine ba_putR q1 12 32 (q := (RX12, TX12, 83)) dX12_init_153 rfl hk52 (Nat.le_of_ble_eq_true rfl) lf_X12_196 (Or.inr ⟨rfl, rfl⟩) rfl rfl rfl ?_
      exact ih.2.2.2.2.1 r0 M (ao_r ρ q1 32 (some q0)) _ h
    · intro r0 M ρ y h
      replace h := ao_ifF h (by decide)
      replace h := ao_ifF h (by decide)
      replace h := ao_ifF h (by decide)
      replace h := ao_ifF h (by decide)
      replace h := ao_ifT h rfl
      refine ao_aload_n 0 dX12_init_156 rfl rfl ?_
      refine ao_bipush (v := 6) dX12_init_157 (by decide) ?_
      obtain ⟨n53, hn53, h⟩ := ao_bind h
      obtain ⟨hb54, h⟩ := ao_some h
      refine ba_newa n53 0 dX12_init_159 rfl (by decide) hn53 lna_0 hb54.1 hb54.2 (ao_dc_nw ((mX12_init_c3 n).2.2.2.2.2.1 r0 n53 r0 (ao_zr M n53) (ao_nw ρ n53 0 (6 : Int32).toNatClampNeg (6 : Int32).toNatClampNeg) _ h)) ?_
      exact ih.2.2.2.2.2.1 r0 n53 r0 (ao_zr M n53) (ao_nw ρ n53 0 (6 : Int32).toNatClampNeg (6 : Int32).toNatClampNeg) _ h
    · intro r0 q0 q1 M ρ y h
      replace h := ao_ifF h (by decide)
      replace h := ao_ifF h (by decide)
      replace h := ao_ifF h (by decide)
      replace h := ao_ifF h (by decide)
      replace h := ao_ifF h (by decide)
      replace h := ao_ifT h rfl
      obtain ⟨hk55, h⟩ := ao_some h
      refine ba_putR q1 12 33 (q := (RX12, TX12, 83)) dX12_init_161 rfl hk55 (Nat.le_of_ble_eq_true rfl) lf_X12_199 (Or.inr ⟨rfl, rfl⟩) rfl rfl rfl ?_
      exact ih.2.2.2.2.2.2.1 r0 M (ao_r ρ q1 33 (some q0)) _ h
    · intro r0 M ρ y h
      replace h := ao_ifF h (by decide)
      replace h := ao_ifF h (by decide)
      replace h := ao_ifF h (by decide)
      replace h := ao_ifF h (by decide)
      replace h := ao_ifF h (by decide)
      replace h := ao_ifF h (by decide)
      replace h := ao_ifT h rfl
      refine ao_aload_n 0 dX12_init_164 rfl rfl ?_
      refine ao_bipush (v := 6) dX12_init_165 (by decide) ?_
      obtain ⟨n56, hn56, h⟩ := ao_bind h
      obtain ⟨hb57, h⟩ := ao_some h
      refine ba_newa n56 0 dX12_init_167 rfl (by decide) hn56 lna_0 hb57.1 hb57.2 (ao_dc_nw ((mX12_init_c3 n).2.2.2.2.2.2.2.1 r0 n56 r0 (ao_zr M n56) (ao_nw ρ n56 0 (6 : Int32).toNatClampNeg (6 : Int32).toNatClampNeg) _ h)) ?_
      exact ih.2.2.2.2.2.2.2.1 r0 n56 r0 (ao_zr M n56) (ao_nw ρ n56 0 (6 : Int32).toNatClampNeg (6 : Int32).toNatClampNeg) _ h
    · intro r0 q0 q1 M ρ y h
      replace h := ao_ifF h (by decide)
      replace h := ao_ifF h (by decide)
      replace h := ao_ifF h (by decide)
      replace h := ao_ifF h (by decide)
      replace h := ao_ifF h (by decide)
      replace h := ao_ifF h (by decide)
      replace h := ao_ifF h (by decide)
      replace h := ao_ifT h rfl
      obtain ⟨hk58, h⟩ := ao_some h
      refine ba_putR q1 12 34 (q := (RX12, TX12, 83)) dX12_init_169 rfl hk58 (Nat.le_of_ble_eq_true rfl) lf_X12_202 (Or.inr ⟨rfl, rfl⟩) rfl rfl rfl ?_
      exact ih.2.2.2.2.2.2.2.2.1 r0 M (ao_r ρ q1 34 (some q0)) _ h
    · intro r0 M ρ y h
      replace h := ao_ifF h (by decide)
      replace h := ao_ifF h (by decide)
      replace h := ao_ifF h (by decide)
      replace h := ao_ifF h (by decide)
      replace h := ao_ifF h (by decide)
      replace h := ao_ifF h (by decide)
      replace h := ao_ifF h (by decide)
      replace h := ao_ifF h (by decide)
      replace h := ao_ifT h rfl
      refine ao_aload_n 0 dX12_init_172 rfl rfl ?_
      refine ao_bipush (v := 6) dX12_init_173 (by decide) ?_
      obtain ⟨n59, hn59, h⟩ := ao_bind h
      obtain ⟨hb60, h⟩ := ao_some h
      refine ba_newa n59 0 dX12_init_175 rfl (by decide) hn59 lna_0 hb60.1 hb60.2 (ao_dc_nw ((mX12_init_c3 n).2.2.2.2.2.2.2.2.2 r0 n59 r0 (ao_zr M n59) (ao_nw ρ n59 0 (6 : Int32).toNatClampNeg (6 : Int32).toNatClampNeg) _ h)) ?_
      exact ih.2.2.2.2.2.2.2.2.2 r0 n59 r0 (ao_zr M n59) (ao_nw ρ n59 0 (6 : Int32).toNatClampNeg (6 : Int32).toNatClampNeg) _ h
    · intro r0 q0 q1 M ρ y h
      replace h := ao_ifF h (by decide)
      replace h := ao_ifF h (by decide)
      replace h := ao_ifF h (by decide)
      replace h := ao_ifF h (by decide)
      replace h := ao_ifF h (by decide)
      replace h := ao_ifF h (by decide)
      replace h := ao_ifF h (by decide)
      replace h := ao_ifF h (by decide)
      replace h := ao_ifF h (by decide)
      replace h := ao_ifT h rfl
      obtain ⟨hk61, h⟩ := ao_some h
      refine ba_putR q1 12 35 (q := (RX12, TX12, 83)) dX12_init_177 rfl hk61 (Nat.le_of_ble_eq_true rfl) lf_X12_205 (Or.inr ⟨rfl, rfl⟩) rfl rfl rfl ?_
      exact (wX12_init_c4 d hd MC MS n).1 r0 M (ao_r ρ q1 35 (some q0)) _ h
def fX12_init_c2 : Nat → Nat → Nat → Nat → Nat →  ao_M → ao_H → Option (ao_S)
  | 0, _, _, _, _, _, _ => none
  | n + 1, pc, r0, q0, q1, M, ρ =>
    if pc = 96 then
      (ρ.2.2.2.1).bind fun n32 =>
      if ¬ (256 : Int32) < 0 ∧ (256 : Int32).toNatClampNeg * 8 ≤ 536870912 then
      fX12_init_c2 n 102 r0 n32 r0 (ao_zr M n32) (ao_nw ρ n32 0 (256 : Int32).toNatClampNeg (256 : Int32).toNatClampNeg)
      else none
    else if pc = 102 then
      if ρ.2.1 q1 = 22 then
      fX12_init_c2 n 105 r0 0 0 M (ao_r ρ q1 23 (some q0))
      else none
    else if pc = 105 then
      (ρ.2.2.2.1).bind fun n35 =>
      if ¬ (256 : Int32) < 0 ∧ (256 : Int32).toNatClampNeg * 8 ≤ 536870912 then
      fX12_init_c2 n 111 r0 n35 r0 (ao_zr M n35) (ao_nw ρ n35 0 (256 : Int32).toNatClampNeg (256 : Int32).toNatClampNeg)
      else none
    else if pc = 111 then
      if ρ.2.1 q1 = 22 then
      fX12_init_c2 n 114 r0 0 0 M (ao_r ρ q1 24 (some q0))
      else none
    else if pc = 114 then
      (ρ.2.2.2.1).bind fun n38 =>
      if ¬ (108000 : Int32) < 0 ∧ (108000 : Int32).toNatClampNeg * 8 ≤ 536870912 then
      fX12_init_c2 n 119 r0 n38 r0 (ao_zr M n38) (ao_nw ρ n38 0 (108000 : Int32).toNatClampNeg (108000 : Int32).toNatClampNeg)
      else none
    else if pc = 119 then
      if ρ.2.1 q1 = 22 then
      fX12_init_c2 n 122 r0 0 0 M (ao_r ρ q1 28 (some q0))
      else none
    else if pc = 122 then
      (ρ.2.2.2.1).bind fun n41 =>
      if ¬ (6 : Int32) < 0 ∧ (6 : Int32).toNatClampNeg * 8 ≤ 536870912 then
      fX12_init_c2 n 127 r0 n41 r0 (ao_zr M n41) (ao_nw ρ n41 0 (6 : Int32).toNatClampNeg (6 : Int32).toNatClampNeg)
      else none
    else if pc = 127 then
      if ρ.2.1 q1 = 22 then
      fX12_init_c2 n 130 r0 0 0 M (ao_r ρ q1 29 (some q0))
      else none
    else if pc = 130 then
      (ρ.2.2.2.1).bind fun n44 =>
      if ¬ (6 : Int32) < 0 ∧ (6 : Int32).toNatClampNeg * 8 ≤ 536870912 then
      fX12_init_c2 n 135 r0 n44 r0 (ao_zr M n44) (ao_nw ρ n44 0 (6 : Int32).toNatClampNeg (6 : Int32).toNatClampNeg)
      else none
    else if pc = 135 then
      if ρ.2.1 q1 = 22 then
      fX12_init_c3 n 138 r0 0 0 M (ao_r ρ q1 30 (some q0))
      else none
    else none
set_option maxRecDepth 100000 in
set_option maxHeartbeats 4000000 in
theorem mX12_init_c2 : ∀ n : Nat, (∀ (r0 : Nat) (M : ao_M) (ρ : ao_H) (y : ao_S), fX12_init_c2 n 96 r0 0 0 M ρ = some y → ao_le ρ y.2) ∧ (∀ (r0 : Nat) (q0 : Nat) (q1 : Nat) (M : ao_M) (ρ : ao_H) (y : ao_S), fX12_init_c2 n 102 r0 q0 q1 M ρ = some y → ao_le ρ y.2) ∧ (∀ (r0 : Nat) (M : ao_M) (ρ : ao_H) (y : ao_S), fX12_init_c2 n 105 r0 0 0 M ρ = some y → ao_le ρ y.2) ∧ (∀ (r0 : Nat) (q0 : Nat) (q1 : Nat) (M : ao_M) (ρ : ao_H) (y : ao_S), fX12_init_c2 n 111 r0 q0 q1 M ρ = some y → ao_le ρ y.2) ∧ (∀ (r0 : Nat) (M : ao_M) (ρ : ao_H) (y : ao_S), fX12_init_c2 n 114 r0 0 0 M ρ = some y → ao_le ρ y.2) ∧ (∀ (r0 : Nat) (q0 : Nat) (q1 : Nat) (M : ao_M) (ρ : ao_H) (y : ao_S), fX12_init_c2 n 119 r0 q0 q1 M ρ = some y → ao_le ρ y.2) ∧ (∀ (r0 : Nat) (M : ao_M) (ρ : ao_H) (y : ao_S), fX12_init_c2 n 122 r0 0 0 M ρ = some y → ao_le ρ y.2) ∧ (∀ (r0 : Nat) (q0 : Nat) (q1 : Nat) (M : ao_M) (ρ : ao_H) (y : ao_S), fX12_init_c2 n 127 r0 q0 q1 M ρ = some y → ao_le ρ y.2) ∧ (∀ (r0 : Nat) (M : ao_M) (ρ : ao_H) (y : ao_S), fX12_init_c2 n 130 r0 0 0 M ρ = some y → ao_le ρ y.2) ∧ (∀ (r0 : Nat) (q0 : Nat) (q1 : Nat) (M : ao_M) (ρ : ao_H) (y : ao_S), fX12_init_c2 n 135 r0 q0 q1 M ρ = some y → ao_le ρ y.2) := by
  intro n
  induction n with
  | zero => exact ⟨fun _ _ _ _ h => ao_no h, fun _ _ _ _ _ _ h => ao_no h, fun _ _ _ _ h => ao_no h, fun _ _ _ _ _ _ h => ao_no h, fun _ _ _ _ h => ao_no h, fun _ _ _ _ _ _ h => ao_no h, fun _ _ _ _ h => ao_no h, fun _ _ _ _ _ _ h => ao_no h, fun _ _ _ _ h => ao_no h, fun _ _ _ _ _ _ h => ao_no h⟩
  | succ n ih =>
    refine ⟨?_, ?_, ?_, ?_, ?_, ?_, ?_, ?_, ?_, ?_⟩
    · intro r0 M ρ y h
      replace h := ao_ifT h rfl
      obtain ⟨n32, hn32, h⟩ := ao_bind h
      obtain ⟨-, h⟩ := ao_some h
      exact ao_le_tr (ao_le_nw _ _ _ _ _) (ih.2.1 r0 n32 r0 (ao_zr M n32) (ao_nw ρ n32 0 (256 : Int32).toNatClampNeg (256 : Int32).toNatClampNeg) _ h)
    · intro r0 q0 q1 M ρ y h
      replace h := ao_ifF h (by decide)
      replace h := ao_ifT h rfl
      obtain ⟨-, h⟩ := ao_some h
      exact ao_le_tr (ao_le_r _ _ _ _) (ih.2.2.1 r0 M (ao_r ρ q1 23 (some q0)) _ h)
    · intro r0 M ρ y h
      replace h := ao_ifF h (by decide)
      replace h := ao_ifF h (by decide)
      replace h := ao_ifT h rfl
      obtain ⟨n35, hn35, h⟩ := ao_bind h
      obtain ⟨-, h⟩ := ao_some h
      exact ao_le_tr (ao_le_nw _ _ _ _ _) (ih.2.2.2.1 r0 n35 r0 (ao_zr M n35) (ao_nw ρ n35 0 (256 : Int32).toNatClampNeg (256 : Int32).toNatClampNeg) _ h)
    · intro r0 q0 q1 M ρ y h
      replace h := ao_ifF h (by decide)
      replace h := ao_ifF h (by decide)
      replace h := ao_ifF h (by decide)
      replace h := ao_ifT h rfl
      obtain ⟨-, h⟩ := ao_some h
      exact ao_le_tr (ao_le_r _ _ _ _) (ih.2.2.2.2.1 r0 M (ao_r ρ q1 24 (some q0)) _ h)
    · intro r0 M ρ y h
      replace h := ao_ifF h (by decide)
      replace h := ao_ifF h (by decide)
      replace h := ao_ifF h (by decide)
      replace h := ao_ifF h (by decide)
      replace h := ao_ifT h rfl
      obtain ⟨n38, hn38, h⟩ := ao_bind h
      obtain ⟨-, h⟩ := ao_some h
      exact ao_le_tr (ao_le_nw _ _ _ _ _) (ih.2.2.2.2.2.1 r0 n38 r0 (ao_zr M n38) (ao_nw ρ n38 0 (108000 : Int32).toNatClampNeg (108000 : Int32).toNatClampNeg) _ h)
    · intro r0 q0 q1 M ρ y h
      replace h := ao_ifF h (by decide)
      replace h := ao_ifF h (by decide)
      replace h := ao_ifF h (by decide)
      replace h := ao_ifF h (by decide)
      replace h := ao_ifF h (by decide)
      replace h := ao_ifT h rfl
      obtain ⟨-, h⟩ := ao_some h
      exact ao_le_tr (ao_le_r _ _ _ _) (ih.2.2.2.2.2.2.1 r0 M (ao_r ρ q1 28 (some q0)) _ h)
    · intro r0 M ρ y h
      replace h := ao_ifF h (by decide)
      replace h := ao_ifF h (by decide)
      replace h := ao_ifF h (by decide)
      replace h := ao_ifF h (by decide)
      replace h := ao_ifF h (by decide)
      replace h := ao_ifF h (by decide)
      replace h := ao_ifT h rfl
      obtain ⟨n41, hn41, h⟩ := ao_bind h
      obtain ⟨-, h⟩ := ao_some h
      exact ao_le_tr (ao_le_nw _ _ _ _ _) (ih.2.2.2.2.2.2.2.1 r0 n41 r0 (ao_zr M n41) (ao_nw ρ n41 0 (6 : Int32).toNatClampNeg (6 : Int32).toNatClampNeg) _ h)
    · intro r0 q0 q1 M ρ y h
      replace h := ao_ifF h (by decide)
      replace h := ao_ifF h (by decide)
      replace h := ao_ifF h (by decide)
      replace h := ao_ifF h (by decide)
      replace h := ao_ifF h (by decide)
      replace h := ao_ifF h (by decide)
      replace h := ao_ifF h (by decide)
      replace h := ao_ifT h rfl
      obtain ⟨-, h⟩ := ao_some h
      exact ao_le_tr (ao_le_r _ _ _ _) (ih.2.2.2.2.2.2.2.2.1 r0 M (ao_r ρ q1 29 (some q0)) _ h)
    · intro r0 M ρ y h
      replace h := ao_ifF h (by decide)
      replace h := ao_ifF h (by decide)
      replace h := ao_ifF h (by decide)
      replace h := ao_ifF h (by decide)
      replace h := ao_ifF h (by decide)
      replace h := ao_ifF h (by decide)
      replace h := ao_ifF h (by decide)
      replace h := ao_ifF h (by decide)
      replace h := ao_ifT h rfl
      obtain ⟨n44, hn44, h⟩ := ao_bind h
      obtain ⟨-, h⟩ := ao_some h
      exact ao_le_tr (ao_le_nw _ _ _ _ _) (ih.2.2.2.2.2.2.2.2.2 r0 n44 r0 (ao_zr M n44) (ao_nw ρ n44 0 (6 : Int32).toNatClampNeg (6 : Int32).toNatClampNeg) _ h)
    · intro r0 q0 q1 M ρ y h
      replace h := ao_ifF h (by decide)
      replace h := ao_ifF h (by decide)
      replace h := ao_ifF h (by decide)
      replace h := ao_ifF h (by decide)
      replace h := ao_ifF h (by decide)
      replace h := ao_ifF h (by decide)
      replace h := ao_ifF h (by decide)
      replace h := ao_ifF h (by decide)
      replace h := ao_ifF h (by decide)
      replace h := ao_ifT h rfl
      obtain ⟨-, h⟩ := ao_some h
      exact ao_le_tr (ao_le_r _ _ _ _) ((mX12_init_c3 n).1 r0 M (ao_r ρ q1 30 (some q0)) _ h)
set_option maxRecDepth 100000 in
set_option maxHeartbeats 4000000 in
theorem wX12_init_c2 {Γ : ao_C} (d : Nat) (hd : 5 ≤ d) (MC MS : Nat) : ∀ n : Nat, (∀ (r0 : Nat) (M : ao_M) (ρ : ao_H) (y : ao_S), fX12_init_c2 n 96 r0 0 0 M ρ = some y → ao_W Γ uX12_init (ao_rm d MC MS) (ao_Q Γ (ao_QV y) MC MS) (ao_dc ρ y.2) (ao_ds ρ y.2) 96 [some (.ref (Γ.2.2.2 + r0))] [] (M, ρ)) ∧ (∀ (r0 : Nat) (q0 : Nat) (q1 : Nat) (M : ao_M) (ρ : ao_H) (y : ao_S), fX12_init_c2 n 102 r0 q0 q1 M ρ = some y → ao_W Γ uX12_init (ao_rm d MC MS) (ao_Q Γ (ao_QV y) MC MS) (ao_dc ρ y.2) (ao_ds ρ y.2) 102 [some (.ref (Γ.2.2.2 + r0))] [.ref (Γ.2.2.2 + q0), .ref (Γ.2.2.2 + q1)] (M, ρ)) ∧ (∀ (r0 : Nat) (M : ao_M) (ρ : ao_H) (y : ao_S), fX12_init_c2 n 105 r0 0 0 M ρ = some y → ao_W Γ uX12_init (ao_rm d MC MS) (ao_Q Γ (ao_QV y) MC MS) (ao_dc ρ y.2) (ao_ds ρ y.2) 105 [some (.ref (Γ.2.2.2 + r0))] [] (M, ρ)) ∧ (∀ (r0 : Nat) (q0 : Nat) (q1 : Nat) (M : ao_M) (ρ : ao_H) (y : ao_S), fX12_init_c2 n 111 r0 q0 q1 M ρ = some y → ao_W Γ uX12_init (ao_rm d MC MS) (ao_Q Γ (ao_QV y) MC MS) (ao_dc ρ y.2) (ao_ds ρ y.2) 111 [some (.ref (Γ.2.2.2 + r0))] [.ref (Γ.2.2.2 + q0), .ref (Γ.2.2.2 + q1)] (M, ρ)) ∧ (∀ (r0 : Nat) (M : ao_M) (ρ : ao_H) (y : ao_S), fX12_init_c2 n 114 r0 0 0 M ρ = some y → ao_W Γ uX12_init (ao_rm d MC MS) (ao_Q Γ (ao_QV y) MC MS) (ao_dc ρ y.2) (ao_ds ρ y.2) 114 [some (.ref (Γ.2.2.2 + r0))] [] (M, ρ)) ∧ (∀ (r0 : Nat) (q0 : Nat) (q1 : Nat) (M : ao_M) (ρ : ao_H) (y : ao_S), fX12_init_c2 n 119 r0 q0 q1 M ρ = some y → ao_W Γ uX12_init (ao_rm d MC MS) (ao_Q Γ (ao_QV y) MC MS) (ao_dc ρ y.2) (ao_ds ρ y.2) 119 [some (.ref (Γ.2.2.2 + r0))] [.ref (Γ.2.2.2 + q0), .ref (Γ.2.2.2 + q1)] (M, ρ)) ∧ (∀ (r0 : Nat) (M : ao_M) (ρ : ao_H) (y : ao_S), fX12_init_c2 n 122 r0 0 0 M ρ = some y → ao_W Γ uX12_init (ao_rm d MC MS) (ao_Q Γ (ao_QV y) MC MS) (ao_dc ρ y.2) (ao_ds ρ y.2) 122 [some (.ref (Γ.2.2.2 + r0))] [] (M, ρ)) ∧ (∀ (r0 : Nat) (q0 : Nat) (q1 : Nat) (M : ao_M) (ρ : ao_H) (y : ao_S), fX12_init_c2 n 127 r0 q0 q1 M ρ = some y → ao_W Γ uX12_init (ao_rm d MC MS) (ao_Q Γ (ao_QV y) MC MS) (ao_dc ρ y.2) (ao_ds ρ y.2) 127 [some (.ref (Γ.2.2.2 + r0))] [.ref (Γ.2.2.2 + q0), .ref (Γ.2.2.2 + q1)] (M, ρ)) ∧ (∀ (r0 : Nat) (M : ao_M) (ρ : ao_H) (y : ao_S), fX12_init_c2 n 130 r0 0 0 M ρ = some y → ao_W Γ uX12_init (ao_rm d MC MS) (ao_Q Γ (ao_QV y) MC MS) (ao_dc ρ y.2) (ao_ds ρ y.2) 130 [some (.ref (Γ.2.2.2 + r0))] [] (M, ρ)) ∧ (∀ (r0 : Nat) (q0 : Nat) (q1 : Nat) (M : ao_M) (ρ : ao_H) (y : ao_S), fX12_init_c2 n 135 r0 q0 q1 M ρ = some y → ao_W Γ uX12_init (ao_rm d MC MS) (ao_Q Γ (ao_QV y) MC MS) (ao_dc ρ y.2) (ao_ds ρ y.2) 135 [some (.ref (Γ.2.2.2 + r0))] [.ref (Γ.2.2.2 + q0), .ref (Γ.2.2.2 + q1)] (M, ρ)) := by
  intro n
  induction n with
  | zero => exact ⟨fun _ _ _ _ h => ao_no h, fun _ _ _ _ _ _ h => ao_no h, fun _ _ _ _ h => ao_no h, fun _ _ _ _ _ _ h => ao_no h, fun _ _ _ _ h => ao_no h, fun _ _ _ _ _ _ h => ao_no h, fun _ _ _ _ h => ao_no h, fun _ _ _ _ _ _ h => ao_no h, fun _ _ _ _ h => ao_no h, fun _ _ _ _ _ _ h => ao_no h⟩
  | succ n ih =>
    refine ⟨?_, ?_, ?_, ?_, ?_, ?_, ?_, ?_, ?_, ?_⟩
    · intro r0 M ρ y h
      replace h := ao_ifT h rfl
      refine ao_aload_n 0 dX12_init_96 rfl rfl ?_
      refine ao_sipush (v := 256) dX12_init_97 (by decide) ?_
      obtain ⟨n32, hn32, h⟩ := ao_bind h
      obtain ⟨hb33, h⟩ := ao_some h
      refine ba_newa n32 0 dX12_init_100 rfl (by decide) hn32 lna_0 hb33.1 hb33.2 (ao_dc_nw ((mX12_init_c2 n).2.1 r0 n32 r0 (ao_zr M n32) (ao_nw ρ n32 0 (256 : Int32).toNatClampNeg (256 : Int32).toNatClampNeg) _ h)) ?_
      exact ih.2.1 r0 n32 r0 (ao_zr M n32) (ao_nw ρ n32 0 (256 : Int32).toNatClampNeg (256 : Int32).toNatClampNeg) _ h
    · intro r0 q0 q1 M ρ y h
      replace h := ao_ifF h (by decide)
      replace h := ao_ifT h rfl
      obtain ⟨hk34, h⟩ := ao_some h
      refine ba_putR q1 12 23 (q := (RX12, TX12, 83)) dX12_init_102 rfl hk34 (Nat.le_of_ble_eq_true rfl) lf_X12_142 (Or.inl rfl) rfl rfl rfl ?_
      exact ih.2.2.1 r0 M (ao_r ρ q1 23 (some q0)) _ h
    · intro r0 M ρ y h
      replace h := ao_ifF h (by decide)
      replace h := ao_ifF h (by decide)
      replace h := ao_ifT h rfl
      refine ao_aload_n 0 dX12_init_105 rfl rfl ?_
      refine ao_sipush (v := 256) dX12_init_106 (by decide) ?_
      obtain ⟨n35, hn35, h⟩ := ao_bind h
      obtain ⟨hb36, h⟩ := ao_some h
      refine ba_newa n35 0 dX12_init_109 rfl (by decide) hn35 lna_0 hb36.1 hb36.2 (ao_dc_nw ((mX12_init_c2 n).2.2.2.1 r0 n35 r0 (ao_zr M n35) (ao_nw ρ n35 0 (256 : Int32).toNatClampNeg (256 : Int32).toNatClampNeg) _ h)) ?_
      exact ih.2.2.2.1 r0 n35 r0 (ao_zr M n35) (ao_nw ρ n35 0 (256 : Int32).toNatClampNeg (256 : Int32).toNatClampNeg) _ h
    · intro r0 q0 q1 M ρ y h
      replace h := ao_ifF h (by decide)
      replace h := ao_ifF h (by decide)
      replace h := ao_ifF h (by decide)
      replace h := ao_ifT h rfl
      obtain ⟨hk37, h⟩ := ao_some h
      refine ba_putR q1 12 24 (q := (RX12, TX12, 83)) dX12_init_111 rfl hk37 (Nat.le_of_ble_eq_true rfl) lf_X12_145 (Or.inl rfl) rfl rfl rfl ?_
      exact ih.2.2.2.2.1 r0 M (ao_r ρ q1 24 (some q0)) _ h
    · intro r0 M ρ y h
      replace h := ao_ifF h (by decide)
      replace h := ao_ifF h (by decide)
      replace h := ao_ifF h (by decide)
      replace h := ao_ifF h (by decide)
      replace h := ao_ifT h rfl
      refine ao_aload_n 0 dX12_init_114 rfl rfl ?_
      refine ao_ldc (v := 108000) dX12_init_115 lk_X12_183 ?_
      obtain ⟨n38, hn38, h⟩ := ao_bind h
      obtain ⟨hb39, h⟩ := ao_some h
      refine ba_newa n38 0 dX12_init_117 rfl (by decide) hn38 lna_0 hb39.1 hb39.2 (ao_dc_nw ((mX12_init_c2 n).2.2.2.2.2.1 r0 n38 r0 (ao_zr M n38) (ao_nw ρ n38 0 (108000 : Int32).toNatClampNeg (108000 : Int32).toNatClampNeg) _ h)) ?_
      exact ih.2.2.2.2.2.1 r0 n38 r0 (ao_zr M n38) (ao_nw ρ n38 0 (108000 : Int32).toNatClampNeg (108000 : Int32).toNatClampNeg) _ h
    · intro r0 q0 q1 M ρ y h
      replace h := ao_ifF h (by decide)
      replace h := ao_ifF h (by decide)
      replace h := ao_ifF h (by decide)
      replace h := ao_ifF h (by decide)
      replace h := ao_ifF h (by decide)
      replace h := ao_ifT h rfl
      obtain ⟨hk40, h⟩ := ao_some h
      refine ba_putR q1 12 28 (q := (RX12, TX12, 83)) dX12_init_119 rfl hk40 (Nat.le_of_ble_eq_true rfl) lf_X12_184 (Or.inr ⟨rfl, rfl⟩) rfl rfl rfl ?_
      exact ih.2.2.2.2.2.2.1 r0 M (ao_r ρ q1 28 (some q0)) _ h
    · intro r0 M ρ y h
      replace h := ao_ifF h (by decide)
      replace h := ao_ifF h (by decide)
      replace h := ao_ifF h (by decide)
      replace h := ao_ifF h (by decide)
      replace h := ao_ifF h (by decide)
      replace h := ao_ifF h (by decide)
      replace h := ao_ifT h rfl
      refine ao_aload_n 0 dX12_init_122 rfl rfl ?_
      refine ao_bipush (v := 6) dX12_init_123 (by decide) ?_
      obtain ⟨n41, hn41, h⟩ := ao_bind h
      obtain ⟨hb42, h⟩ := ao_some h
      refine ba_newa n41 0 dX12_init_125 rfl (by decide) hn41 lna_0 hb42.1 hb42.2 (ao_dc_nw ((mX12_init_c2 n).2.2.2.2.2.2.2.1 r0 n41 r0 (ao_zr M n41) (ao_nw ρ n41 0 (6 : Int32).toNatClampNeg (6 : Int32).toNatClampNeg) _ h)) ?_
      exact ih.2.2.2.2.2.2.2.1 r0 n41 r0 (ao_zr M n41) (ao_nw ρ n41 0 (6 : Int32).toNatClampNeg (6 : Int32).toNatClampNeg) _ h
    · intro r0 q0 q1 M ρ y h
      replace h := ao_ifF h (by decide)
      replace h := ao_ifF h (by decide)
      replace h := ao_ifF h (by decide)
      replace h := ao_ifF h (by decide)
      replace h := ao_ifF h (by decide)
      replace h := ao_ifF h (by decide)
      replace h := ao_ifF h (by decide)
      replace h := ao_ifT h rfl
      obtain ⟨hk43, h⟩ := ao_some h
      refine ba_putR q1 12 29 (q := (RX12, TX12, 83)) dX12_init_127 rfl hk43 (Nat.le_of_ble_eq_true rfl) lf_X12_187 (Or.inr ⟨rfl, rfl⟩) rfl rfl rfl ?_
      exact ih.2.2.2.2.2.2.2.2.1 r0 M (ao_r ρ q1 29 (some q0)) _ h
    · intro r0 M ρ y h
      replace h := ao_ifF h (by decide)
      replace h := ao_ifF h (by decide)
      replace h := ao_ifF h (by decide)
      replace h := ao_ifF h (by decide)
      replace h := ao_ifF h (by decide)
      replace h := ao_ifF h (by decide)
      replace h := ao_ifF h (by decide)
      replace h := ao_ifF h (by decide)
      replace h := ao_ifT h rfl
      refine ao_aload_n 0 dX12_init_130 rfl rfl ?_
      refine ao_bipush (v := 6) dX12_init_131 (by decide) ?_
      obtain ⟨n44, hn44, h⟩ := ao_bind h
      obtain ⟨hb45, h⟩ := ao_some h
      refine ba_newa n44 0 dX12_init_133 rfl (by decide) hn44 lna_0 hb45.1 hb45.2 (ao_dc_nw ((mX12_init_c2 n).2.2.2.2.2.2.2.2.2 r0 n44 r0 (ao_zr M n44) (ao_nw ρ n44 0 (6 : Int32).toNatClampNeg (6 : Int32).toNatClampNeg) _ h)) ?_
      exact ih.2.2.2.2.2.2.2.2.2 r0 n44 r0 (ao_zr M n44) (ao_nw ρ n44 0 (6 : Int32).toNatClampNeg (6 : Int32).toNatClampNeg) _ h
    · intro r0 q0 q1 M ρ y h
      replace h := ao_ifF h (by decide)
      replace h := ao_ifF h (by decide)
      replace h := ao_ifF h (by decide)
      replace h := ao_ifF h (by decide)
      replace h := ao_ifF h (by decide)
      replace h := ao_ifF h (by decide)
      replace h := ao_ifF h (by decide)
      replace h := ao_ifF h (by decide)
      replace h := ao_ifF h (by decide)
      replace h := ao_ifT h rfl
      obtain ⟨hk46, h⟩ := ao_some h
      refine ba_putR q1 12 30 (q := (RX12, TX12, 83)) dX12_init_135 rfl hk46 (Nat.le_of_ble_eq_true rfl) lf_X12_190 (Or.inr ⟨rfl, rfl⟩) rfl rfl rfl ?_
      exact (wX12_init_c3 d hd MC MS n).1 r0 M (ao_r ρ q1 30 (some q0)) _ h
def fX12_init_c1 : Nat → Nat → Nat → Nat → Nat →  ao_M → ao_H → Option (ao_S)
  | 0, _, _, _, _, _, _ => none
  | n + 1, pc, r0, q0, q1, M, ρ =>
    if pc = 55 then
      (ρ.2.2.2.1).bind fun n17 =>
      if ¬ (26 : Int32) < 0 ∧ (26 : Int32).toNatClampNeg * 8 ≤ 536870912 then
      fX12_init_c1 n 60 r0 n17 r0 (ao_zr M n17) (ao_nw ρ n17 0 (26 : Int32).toNatClampNeg (26 : Int32).toNatClampNeg)
      else none
    else if pc = 60 then
      if ρ.2.1 q1 = 22 then
      fX12_init_c1 n 63 r0 0 0 M (ao_r ρ q1 18 (some q0))
      else none
    else if pc = 63 then
      (ρ.2.2.2.1).bind fun n20 =>
      if ¬ (26 : Int32) < 0 ∧ (26 : Int32).toNatClampNeg * 8 ≤ 536870912 then
      fX12_init_c1 n 68 r0 n20 r0 (ao_zr M n20) (ao_nw ρ n20 0 (26 : Int32).toNatClampNeg (26 : Int32).toNatClampNeg)
      else none
    else if pc = 68 then
      if ρ.2.1 q1 = 22 then
      fX12_init_c1 n 71 r0 0 0 M (ao_r ρ q1 19 (some q0))
      else none
    else if pc = 71 then
      (ρ.2.2.2.1).bind fun n23 =>
      if ¬ (26 : Int32) < 0 ∧ (26 : Int32).toNatClampNeg * 8 ≤ 536870912 then
      fX12_init_c1 n 76 r0 n23 r0 (ao_zr M n23) (ao_nw ρ n23 0 (26 : Int32).toNatClampNeg (26 : Int32).toNatClampNeg)
      else none
    else if pc = 76 then
      if ρ.2.1 q1 = 22 then
      fX12_init_c1 n 79 r0 0 0 M (ao_r ρ q1 20 (some q0))
      else none
    else if pc = 79 then
      (ρ.2.2.2.1).bind fun n26 =>
      if ¬ (26 : Int32) < 0 ∧ (26 : Int32).toNatClampNeg * 8 ≤ 536870912 then
      fX12_init_c1 n 84 r0 n26 r0 (ao_zr M n26) (ao_nw ρ n26 0 (26 : Int32).toNatClampNeg (26 : Int32).toNatClampNeg)
      else none
    else if pc = 84 then
      if ρ.2.1 q1 = 22 then
      fX12_init_c1 n 87 r0 0 0 M (ao_r ρ q1 21 (some q0))
      else none
    else if pc = 87 then
      (ρ.2.2.2.1).bind fun n29 =>
      if ¬ (256 : Int32) < 0 ∧ (256 : Int32).toNatClampNeg * 8 ≤ 536870912 then
      fX12_init_c1 n 93 r0 n29 r0 (ao_zr M n29) (ao_nw ρ n29 0 (256 : Int32).toNatClampNeg (256 : Int32).toNatClampNeg)
      else none
    else if pc = 93 then
      if ρ.2.1 q1 = 22 then
      fX12_init_c2 n 96 r0 0 0 M (ao_r ρ q1 22 (some q0))
      else none
    else none
set_option maxRecDepth 100000 in
set_option maxHeartbeats 4000000 in
theorem mX12_init_c1 : ∀ n : Nat, (∀ (r0 : Nat) (M : ao_M) (ρ : ao_H) (y : ao_S), fX12_init_c1 n 55 r0 0 0 M ρ = some y → ao_le ρ y.2) ∧ (∀ (r0 : Nat) (q0 : Nat) (q1 : Nat) (M : ao_M) (ρ : ao_H) (y : ao_S), fX12_init_c1 n 60 r0 q0 q1 M ρ = some y → ao_le ρ y.2) ∧ (∀ (r0 : Nat) (M : ao_M) (ρ : ao_H) (y : ao_S), fX12_init_c1 n 63 r0 0 0 M ρ = some y → ao_le ρ y.2) ∧ (∀ (r0 : Nat) (q0 : Nat) (q1 : Nat) (M : ao_M) (ρ : ao_H) (y : ao_S), fX12_init_c1 n 68 r0 q0 q1 M ρ = some y → ao_le ρ y.2) ∧ (∀ (r0 : Nat) (M : ao_M) (ρ : ao_H) (y : ao_S), fX12_init_c1 n 71 r0 0 0 M ρ = some y → ao_le ρ y.2) ∧ (∀ (r0 : Nat) (q0 : Nat) (q1 : Nat) (M : ao_M) (ρ : ao_H) (y : ao_S), fX12_init_c1 n 76 r0 q0 q1 M ρ = some y → ao_le ρ y.2) ∧ (∀ (r0 : Nat) (M : ao_M) (ρ : ao_H) (y : ao_S), fX12_init_c1 n 79 r0 0 0 M ρ = some y → ao_le ρ y.2) ∧ (∀ (r0 : Nat) (q0 : Nat) (q1 : Nat) (M : ao_M) (ρ : ao_H) (y : ao_S), fX12_init_c1 n 84 r0 q0 q1 M ρ = some y → ao_le ρ y.2) ∧ (∀ (r0 : Nat) (M : ao_M) (ρ : ao_H) (y : ao_S), fX12_init_c1 n 87 r0 0 0 M ρ = some y → ao_le ρ y.2) ∧ (∀ (r0 : Nat) (q0 : Nat) (q1 : Nat) (M : ao_M) (ρ : ao_H) (y : ao_S), fX12_init_c1 n 93 r0 q0 q1 M ρ = some y → ao_le ρ y.2) := by
  intro n
  induction n with
  | zero => exact ⟨fun _ _ _ _ h => ao_no h, fun _ _ _ _ _ _ h => ao_no h, fun _ _ _ _ h => ao_no h, fun _ _ _ _ _ _ h => ao_no h, fun _ _ _ _ h => ao_no h, fun _ _ _ _ _ _ h => ao_no h, fun _ _ _ _ h => ao_no h, fun _ _ _ _ _ _ h => ao_no h, fun _ _ _ _ h => ao_no h, fun _ _ _ _ _ _ h => ao_no h⟩
  | succ n ih =>
    refine ⟨?_, ?_, ?_, ?_, ?_, ?_, ?_, ?_, ?_, ?_⟩
    · intro r0 M ρ y h
      replace h := ao_ifT h rfl
      obtain ⟨n17, hn17, h⟩ := ao_bind h
      obtain ⟨-, h⟩ := ao_some h
      exact ao_le_tr (ao_le_nw _ _ _ _ _) (ih.2.1 r0 n17 r0 (ao_zr M n17) (ao_nw ρ n17 0 (26 : Int32).toNatClampNeg (26 : Int32).toNatClampNeg) _ h)
    · intro r0 q0 q1 M ρ y h
      replace h := ao_ifF h (by decide)
      replace h := ao_ifT h rfl
      obtain ⟨-, h⟩ := ao_some h
      exact ao_le_tr (ao_le_r _ _ _ _) (ih.2.2.1 r0 M (ao_r ρ q1 18 (some q0)) _ h)
    · intro r0 M ρ y h
      replace h := ao_ifF h (by decide)
      replace h := ao_ifF h (by decide)
      replace h := ao_ifT h rfl
      obtain ⟨n20, hn20, h⟩ := ao_bind h
      obtain ⟨-, h⟩ := ao_some h
      exact ao_le_tr (ao_le_nw _ _ _ _ _) (ih.2.2.2.1 r0 n20 r0 (ao_zr M n20) (ao_nw ρ n20 0 (26 : Int32).toNatClampNeg (26 : Int32).toNatClampNeg) _ h)
    · intro r0 q0 q1 M ρ y h
      replace h := ao_ifF h (by decide)
      replace h := ao_ifF h (by decide)
      replace h := ao_ifF h (by decide)
      replace h := ao_ifT h rfl
      obtain ⟨-, h⟩ := ao_some h
      exact ao_le_tr (ao_le_r _ _ _ _) (ih.2.2.2.2.1 r0 M (ao_r ρ q1 19 (some q0)) _ h)
    · intro r0 M ρ y h
      replace h := ao_ifF h (by decide)
      replace h := ao_ifF h (by decide)
      replace h := ao_ifF h (by decide)
      replace h := ao_ifF h (by decide)
      replace h := ao_ifT h rfl
      obtain ⟨n23, hn23, h⟩ := ao_bind h
      obtain ⟨-, h⟩ := ao_some h
      exact ao_le_tr (ao_le_nw _ _ _ _ _) (ih.2.2.2.2.2.1 r0 n23 r0 (ao_zr M n23) (ao_nw ρ n23 0 (26 : Int32).toNatClampNeg (26 : Int32).toNatClampNeg) _ h)
    · intro r0 q0 q1 M ρ y h
      replace h := ao_ifF h (by decide)
      replace h := ao_ifF h (by decide)
      replace h := ao_ifF h (by decide)
      replace h := ao_ifF h (by decide)
      replace h := ao_ifF h (by decide)
      replace h := ao_ifT h rfl
      obtain ⟨-, h⟩ := ao_some h
      exact ao_le_tr (ao_le_r _ _ _ _) (ih.2.2.2.2.2.2.1 r0 M (ao_r ρ q1 20 (some q0)) _ h)
    · intro r0 M ρ y h
      replace h := ao_ifF h (by decide)
      replace h := ao_ifF h (by decide)
      replace h := ao_ifF h (by decide)
      replace h := ao_ifF h (by decide)
      replace h := ao_ifF h (by decide)
      replace h := ao_ifF h (by decide)
      replace h := ao_ifT h rfl
      obtain ⟨n26, hn26, h⟩ := ao_bind h
      obtain ⟨-, h⟩ := ao_some h
      exact ao_le_tr (ao_le_nw _ _ _ _ _) (ih.2.2.2.2.2.2.2.1 r0 n26 r0 (ao_zr M n26) (ao_nw ρ n26 0 (26 : Int32).toNatClampNeg (26 : Int32).toNatClampNeg) _ h)
    · intro r0 q0 q1 M ρ y h
      replace h := ao_ifF h (by decide)
      replace h := ao_ifF h (by decide)
      replace h := ao_ifF h (by decide)
      replace h := ao_ifF h (by decide)
      replace h := ao_ifF h (by decide)
      replace h := ao_ifF h (by decide)
      replace h := ao_ifF h (by decide)
      replace h := ao_ifT h rfl
      obtain ⟨-, h⟩ := ao_some h
      exact ao_le_tr (ao_le_r _ _ _ _) (ih.2.2.2.2.2.2.2.2.1 r0 M (ao_r ρ q1 21 (some q0)) _ h)
    · intro r0 M ρ y h
      replace h := ao_ifF h (by decide)
      replace h := ao_ifF h (by decide)
      replace h := ao_ifF h (by decide)
      replace h := ao_ifF h (by decide)
      replace h := ao_ifF h (by decide)
      replace h := ao_ifF h (by decide)
      replace h := ao_ifF h (by decide)
      replace h := ao_ifF h (by decide)
      replace h := ao_ifT h rfl
      obtain ⟨n29, hn29, h⟩ := ao_bind h
      obtain ⟨-, h⟩ := ao_some h
      exact ao_le_tr (ao_le_nw _ _ _ _ _) (ih.2.2.2.2.2.2.2.2.2 r0 n29 r0 (ao_zr M n29) (ao_nw ρ n29 0 (256 : Int32).toNatClampNeg (256 : Int32).toNatClampNeg) _ h)
    · intro r0 q0 q1 M ρ y h
      replace h := ao_ifF h (by decide)
      replace h := ao_ifF h (by decide)
      replace h := ao_ifF h (by decide)
      replace h := ao_ifF h (by decide)
      replace h := ao_ifF h (by decide)
      replace h := ao_ifF h (by decide)
      replace h := ao_ifF h (by decide)
      replace h := ao_ifF h (by decide)
      replace h := ao_ifF h (by decide)
      replace h := ao_ifT h rfl
      obtain ⟨-, h⟩ := ao_some h
      exact ao_le_tr (ao_le_r _ _ _ _) ((mX12_init_c2 n).1 r0 M (ao_r ρ q1 22 (some q0)) _ h)
set_option maxRecDepth 100000 in
set_option maxHeartbeats 4000000 in
theorem wX12_init_c1 {Γ : ao_C} (d : Nat) (hd : 5 ≤ d) (MC MS : Nat) : ∀ n : Nat, (∀ (r0 : Nat) (M : ao_M) (ρ : ao_H) (y : ao_S), fX12_init_c1 n 55 r0 0 0 M ρ = some y → ao_W Γ uX12_init (ao_rm d MC MS) (ao_Q Γ (ao_QV y) MC MS) (ao_dc ρ y.2) (ao_ds ρ y.2) 55 [some (.ref (Γ.2.2.2 + r0))] [] (M, ρ)) ∧ (∀ (r0 : Nat) (q0 : Nat) (q1 : Nat) (M : ao_M) (ρ : ao_H) (y : ao_S), fX12_init_c1 n 60 r0 q0 q1 M ρ = some y → ao_W Γ uX12_init (ao_rm d MC MS) (ao_Q Γ (ao_QV y) MC MS) (ao_dc ρ y.2) (ao_ds ρ y.2) 60 [some (.ref (Γ.2.2.2 + r0))] [.ref (Γ.2.2.2 + q0), .ref (Γ.2.2.2 + q1)] (M, ρ)) ∧ (∀ (r0 : Nat) (M : ao_M) (ρ : ao_H) (y : ao_S), fX12_init_c1 n 63 r0 0 0 M ρ = some y → ao_W Γ uX12_init (ao_rm d MC MS) (ao_Q Γ (ao_QV y) MC MS) (ao_dc ρ y.2) (ao_ds ρ y.2) 63 [some (.ref (Γ.2.2.2 + r0))] [] (M, ρ)) ∧ (∀ (r0 : Nat) (q0 : Nat) (q1 : Nat) (M : ao_M) (ρ : ao_H) (y : ao_S), fX12_init_c1 n 68 r0 q0 q1 M ρ = some y → ao_W Γ uX12_init (ao_rm d MC MS) (ao_Q Γ (ao_QV y) MC MS) (ao_dc ρ y.2) (ao_ds ρ y.2) 68 [some (.ref (Γ.2.2.2 + r0))] [.ref (Γ.2.2.2 + q0), .ref (Γ.2.2.2 + q1)] (M, ρ)) ∧ (∀ (r0 : Nat) (M : ao_M) (ρ : ao_H) (y : ao_S), fX12_init_c1 n 71 r0 0 0 M ρ = some y → ao_W Γ uX12_init (ao_rm d MC MS) (ao_Q Γ (ao_QV y) MC MS) (ao_dc ρ y.2) (ao_ds ρ y.2) 71 [some (.ref (Γ.2.2.2 + r0))] [] (M, ρ)) ∧ (∀ (r0 : Nat) (q0 : Nat) (q1 : Nat) (M : ao_M) (ρ : ao_H) (y : ao_S), fX12_init_c1 n 76 r0 q0 q1 M ρ = some y → ao_W Γ uX12_init (ao_rm d MC MS) (ao_Q Γ (ao_QV y) MC MS) (ao_dc ρ y.2) (ao_ds ρ y.2) 76 [some (.ref (Γ.2.2.2 + r0))] [.ref (Γ.2.2.2 + q0), .ref (Γ.2.2.2 + q1)] (M, ρ)) ∧ (∀ (r0 : Nat) (M : ao_M) (ρ : ao_H) (y : ao_S), fX12_init_c1 n 79 r0 0 0 M ρ = some y → ao_W Γ uX12_init (ao_rm d MC MS) (ao_Q Γ (ao_QV y) MC MS) (ao_dc ρ y.2) (ao_ds ρ y.2) 79 [some (.ref (Γ.2.2.2 + r0))] [] (M, ρ)) ∧ (∀ (r0 : Nat) (q0 : Nat) (q1 : Nat) (M : ao_M) (ρ : ao_H) (y : ao_S), fX12_init_c1 n 84 r0 q0 q1 M ρ = some y → ao_W Γ uX12_init (ao_rm d MC MS) (ao_Q Γ (ao_QV y) MC MS) (ao_dc ρ y.2) (ao_ds ρ y.2) 84 [some (.ref (Γ.2.2.2 + r0))] [.ref (Γ.2.2.2 + q0), .ref (Γ.2.2.2 + q1)] (M, ρ)) ∧ (∀ (r0 : Nat) (M : ao_M) (ρ : ao_H) (y : ao_S), fX12_init_c1 n 87 r0 0 0 M ρ = some y → ao_W Γ uX12_init (ao_rm d MC MS) (ao_Q Γ (ao_QV y) MC MS) (ao_dc ρ y.2) (ao_ds ρ y.2) 87 [some (.ref (Γ.2.2.2 + r0))] [] (M, ρ)) ∧ (∀ (r0 : Nat) (q0 : Nat) (q1 : Nat) (M : ao_M) (ρ : ao_H) (y : ao_S), fX12_init_c1 n 93 r0 q0 q1 M ρ = some y → ao_W Γ uX12_init (ao_rm d MC MS) (ao_Q Γ (ao_QV y) MC MS) (ao_dc ρ y.2) (ao_ds ρ y.2) 93 [some (.ref (Γ.2.2.2 + r0))] [.ref (Γ.2.2.2 + q0), .ref (Γ.2.2.2 + q1)] (M, ρ)) := by
  intro n
  induction n with
  | zero => exact ⟨fun _ _ _ _ h => ao_no h, fun _ _ _ _ _ _ h => ao_no h, fun _ _ _ _ h => ao_no h, fun _ _ _ _ _ _ h => ao_no h, fun _ _ _ _ h => ao_no h, fun _ _ _ _ _ _ h => ao_no h, fun _ _ _ _ h => ao_no h, fun _ _ _ _ _ _ h => ao_no h, fun _ _ _ _ h => ao_no h, fun _ _ _ _ _ _ h => ao_no h⟩
  | succ n ih =>
    refine ⟨?_, ?_, ?_, ?_, ?_, ?_, ?_, ?_, ?_, ?_⟩
    · intro r0 M ρ y h
      replace h := ao_ifT h rfl
      refine ao_aload_n 0 dX12_init_55 rfl rfl ?_
      refine ao_bipush (v := 26) dX12_init_56 (by decide) ?_
      obtain ⟨n17, hn17, h⟩ := ao_bind h
      obtain ⟨hb18, h⟩ := ao_some h
      refine ba_newa n17 0 dX12_init_58 rfl (by decide) hn17 lna_0 hb18.1 hb18.2 (ao_dc_nw ((mX12_init_c1 n).2.1 r0 n17 r0 (ao_zr M n17) (ao_nw ρ n17 0 (26 : Int32).toNatClampNeg (26 : Int32).toNatClampNeg) _ h)) ?_
      exact ih.2.1 r0 n17 r0 (ao_zr M n17) (ao_nw ρ n17 0 (26 : Int32).toNatClampNeg (26 : Int32).toNatClampNeg) _ h
    · intro r0 q0 q1 M ρ y h
      replace h := ao_ifF h (by decide)
      replace h := ao_ifT h rfl
      obtain ⟨hk19, h⟩ := ao_some h
      refine ba_putR q1 12 18 (q := (RX12, TX12, 83)) dX12_init_60 rfl hk19 (Nat.le_of_ble_eq_true rfl) lf_X12_157 (Or.inr ⟨rfl, rfl⟩) rfl rfl rfl ?_
      exact ih.2.2.1 r0 M (ao_r ρ q1 18 (some q0)) _ h
    · intro r0 M ρ y h
      replace h := ao_ifF h (by decide)
      replace h := ao_ifF h (by decide)
      replace h := ao_ifT h rfl
      refine ao_aload_n 0 dX12_init_63 rfl rfl ?_
      refine ao_bipush (v := 26) dX12_init_64 (by decide) ?_
      obtain ⟨n20, hn20, h⟩ := ao_bind h
      obtain ⟨hb21, h⟩ := ao_some h
      refine ba_newa n20 0 dX12_init_66 rfl (by decide) hn20 lna_0 hb21.1 hb21.2 (ao_dc_nw ((mX12_init_c1 n).2.2.2.1 r0 n20 r0 (ao_zr M n20) (ao_nw ρ n20 0 (26 : Int32).toNatClampNeg (26 : Int32).toNatClampNeg) _ h)) ?_
      exact ih.2.2.2.1 r0 n20 r0 (ao_zr M n20) (ao_nw ρ n20 0 (26 : Int32).toNatClampNeg (26 : Int32).toNatClampNeg) _ h
    · intro r0 q0 q1 M ρ y h
      replace h := ao_ifF h (by decide)
      replace h := ao_ifF h (by decide)
      replace h := ao_ifF h (by decide)
      replace h := ao_ifT h rfl
      obtain ⟨hk22, h⟩ := ao_some h
      refine ba_putR q1 12 19 (q := (RX12, TX12, 83)) dX12_init_68 rfl hk22 (Nat.le_of_ble_eq_true rfl) lf_X12_177 (Or.inr ⟨rfl, rfl⟩) rfl rfl rfl ?_
      exact ih.2.2.2.2.1 r0 M (ao_r ρ q1 19 (some q0)) _ h
    · intro r0 M ρ y h
      replace h := ao_ifF h (by decide)
      replace h := ao_ifF h (by decide)
      replace h := ao_ifF h (by decide)
      replace h := ao_ifF h (by decide)
      replace h := ao_ifT h rfl
      refine ao_aload_n 0 dX12_init_71 rfl rfl ?_
      refine ao_bipush (v := 26) dX12_init_72 (by decide) ?_
      obtain ⟨n23, hn23, h⟩ := ao_bind h
      obtain ⟨hb24, h⟩ := ao_some h
      refine ba_newa n23 0 dX12_init_74 rfl (by decide) hn23 lna_0 hb24.1 hb24.2 (ao_dc_nw ((mX12_init_c1 n).2.2.2.2.2.1 r0 n23 r0 (ao_zr M n23) (ao_nw ρ n23 0 (26 : Int32).toNatClampNeg (26 : Int32).toNatClampNeg) _ h)) ?_
      exact ih.2.2.2.2.2.1 r0 n23 r0 (ao_zr M n23) (ao_nw ρ n23 0 (26 : Int32).toNatClampNeg (26 : Int32).toNatClampNeg) _ h
    · intro r0 q0 q1 M ρ y h
      replace h := ao_ifF h (by decide)
      replace h := ao_ifF h (by decide)
      replace h := ao_ifF h (by decide)
      replace h := ao_ifF h (by decide)
      replace h := ao_ifF h (by decide)
      replace h := ao_ifT h rfl
      obtain ⟨hk25, h⟩ := ao_some h
      refine ba_putR q1 12 20 (q := (RX12, TX12, 83)) dX12_init_76 rfl hk25 (Nat.le_of_ble_eq_true rfl) lf_X12_180 (Or.inr ⟨rfl, rfl⟩) rfl rfl rfl ?_
      exact ih.2.2.2.2.2.2.1 r0 M (ao_r ρ q1 20 (some q0)) _ h
    · intro r0 M ρ y h
      replace h := ao_ifF h (by decide)
      replace h := ao_ifF h (by decide)
      replace h := ao_ifF h (by decide)
      replace h := ao_ifF h (by decide)
      replace h := ao_ifF h (by decide)
      replace h := ao_ifF h (by decide)
      replace h := ao_ifT h rfl
      refine ao_aload_n 0 dX12_init_79 rfl rfl ?_
      refine ao_bipush (v := 26) dX12_init_80 (by decide) ?_
      obtain ⟨n26, hn26, h⟩ := ao_bind h
      obtain ⟨hb27, h⟩ := ao_some h
      refine ba_newa n26 0 dX12_init_82 rfl (by decide) hn26 lna_0 hb27.1 hb27.2 (ao_dc_nw ((mX12_init_c1 n).2.2.2.2.2.2.2.1 r0 n26 r0 (ao_zr M n26) (ao_nw ρ n26 0 (26 : Int32).toNatClampNeg (26 : Int32).toNatClampNeg) _ h)) ?_
      exact ih.2.2.2.2.2.2.2.1 r0 n26 r0 (ao_zr M n26) (ao_nw ρ n26 0 (26 : Int32).toNatClampNeg (26 : Int32).toNatClampNeg) _ h
    · intro r0 q0 q1 M ρ y h
      replace h := ao_ifF h (by decide)
      replace h := ao_ifF h (by decide)
      replace h := ao_ifF h (by decide)
      replace h := ao_ifF h (by decide)
      replace h := ao_ifF h (by decide)
      replace h := ao_ifF h (by decide)
      replace h := ao_ifF h (by decide)
      replace h := ao_ifT h rfl
      obtain ⟨hk28, h⟩ := ao_some h
      refine ba_putR q1 12 21 (q := (RX12, TX12, 83)) dX12_init_84 rfl hk28 (Nat.le_of_ble_eq_true rfl) lf_X12_154 (Or.inr ⟨rfl, rfl⟩) rfl rfl rfl ?_
      exact ih.2.2.2.2.2.2.2.2.1 r0 M (ao_r ρ q1 21 (some q0)) _ h
    · intro r0 M ρ y h
      replace h := ao_ifF h (by decide)
      replace h := ao_ifF h (by decide)
      replace h := ao_ifF h (by decide)
      replace h := ao_ifF h (by decide)
      replace h := ao_ifF h (by decide)
      replace h := ao_ifF h (by decide)
      replace h := ao_ifF h (by decide)
      replace h := ao_ifF h (by decide)
      replace h := ao_ifT h rfl
      refine ao_aload_n 0 dX12_init_87 rfl rfl ?_
      refine ao_sipush (v := 256) dX12_init_88 (by decide) ?_
      obtain ⟨n29, hn29, h⟩ := ao_bind h
      obtain ⟨hb30, h⟩ := ao_some h
      refine ba_newa n29 0 dX12_init_91 rfl (by decide) hn29 lna_0 hb30.1 hb30.2 (ao_dc_nw ((mX12_init_c1 n).2.2.2.2.2.2.2.2.2 r0 n29 r0 (ao_zr M n29) (ao_nw ρ n29 0 (256 : Int32).toNatClampNeg (256 : Int32).toNatClampNeg) _ h)) ?_
      exact ih.2.2.2.2.2.2.2.2.2 r0 n29 r0 (ao_zr M n29) (ao_nw ρ n29 0 (256 : Int32).toNatClampNeg (256 : Int32).toNatClampNeg) _ h
    · intro r0 q0 q1 M ρ y h
      replace h := ao_ifF h (by decide)
      replace h := ao_ifF h (by decide)
      replace h := ao_ifF h (by decide)
      replace h := ao_ifF h (by decide)
      replace h := ao_ifF h (by decide)
      replace h := ao_ifF h (by decide)
      replace h := ao_ifF h (by decide)
      replace h := ao_ifF h (by decide)
      replace h := ao_ifF h (by decide)
      replace h := ao_ifT h rfl
      obtain ⟨hk31, h⟩ := ao_some h
      refine ba_putR q1 12 22 (q := (RX12, TX12, 83)) dX12_init_93 rfl hk31 (Nat.le_of_ble_eq_true rfl) lf_X12_135 (Or.inl rfl) rfl rfl rfl ?_
      exact (wX12_init_c2 d hd MC MS n).1 r0 M (ao_r ρ q1 22 (some q0)) _ h
def fX12_init_c0 : Nat → Nat → Nat → Nat → Nat →  ao_M → ao_H → Option (ao_S)
  | 0, _, _, _, _, _, _ => none
  | n + 1, pc, r0, q0, q1, M, ρ =>
    if pc = 0 then
      (ρ.2.2.2.1).bind fun n1 =>
      fX12_init_c0 n 12 r0 n1 r0 (ao_zr M n1) (ao_nw ρ n1 21 0 6)
    else if pc = 12 then
      if ρ.2.1 q1 = 22 then
      fX12_init_c0 n 15 r0 0 0 M (ao_r ρ q1 1 (some q0))
      else none
    else if pc = 15 then
      if ρ.2.1 r0 = 22 then
      ao_let (ao_u M r0 3 (-1 : Int32)) fun M4 =>
      (ρ.2.2.2.1).bind fun n5 =>
      if ¬ (1000 : Int32) < 0 ∧ (1000 : Int32).toNatClampNeg * 8 ≤ 536870912 then
      fX12_init_c0 n 26 r0 n5 r0 (ao_zr M4 n5) (ao_nw ρ n5 1 (1000 : Int32).toNatClampNeg (1000 : Int32).toNatClampNeg)
      else none
      else none
    else if pc = 26 then
      if ρ.2.1 q1 = 22 then
      fX12_init_c0 n 29 r0 0 0 M (ao_r ρ q1 4 (some q0))
      else none
    else if pc = 29 then
      (ρ.2.2.2.1).bind fun n8 =>
      if ¬ (1000 : Int32) < 0 ∧ (1000 : Int32).toNatClampNeg * 8 ≤ 536870912 then
      fX12_init_c0 n 35 r0 n8 r0 (ao_zr M n8) (ao_nw ρ n8 1 (1000 : Int32).toNatClampNeg (1000 : Int32).toNatClampNeg)
      else none
    else if pc = 35 then
      if ρ.2.1 q1 = 22 then
      fX12_init_c0 n 38 r0 0 0 M (ao_r ρ q1 5 (some q0))
      else none
    else if pc = 38 then
      (ρ.2.2.2.1).bind fun n11 =>
      if ¬ (18000 : Int32) < 0 ∧ (18000 : Int32).toNatClampNeg * 8 ≤ 536870912 then
      fX12_init_c0 n 44 r0 n11 r0 (ao_zr M n11) (ao_nw ρ n11 0 (18000 : Int32).toNatClampNeg (18000 : Int32).toNatClampNeg)
      else none
    else if pc = 44 then
      if ρ.2.1 q1 = 22 then
      fX12_init_c0 n 47 r0 0 0 M (ao_r ρ q1 12 (some q0))
      else none
    else if pc = 47 then
      (ρ.2.2.2.1).bind fun n14 =>
      if ¬ (26 : Int32) < 0 ∧ (26 : Int32).toNatClampNeg * 8 ≤ 536870912 then
      fX12_init_c0 n 52 r0 n14 r0 (ao_zr M n14) (ao_nw ρ n14 0 (26 : Int32).toNatClampNeg (26 : Int32).toNatClampNeg)
      else none
    else if pc = 52 then
      if ρ.2.1 q1 = 22 then
      fX12_init_c1 n 55 r0 0 0 M (ao_r ρ q1 17 (some q0))
      else none
    else none
set_option maxRecDepth 100000 in
set_option maxHeartbeats 4000000 in
theorem mX12_init_c0 : ∀ n : Nat, (∀ (r0 : Nat) (M : ao_M) (ρ : ao_H) (y : ao_S), fX12_init_c0 n 0 r0 0 0 M ρ = some y → ao_le ρ y.2) ∧ (∀ (r0 : Nat) (q0 : Nat) (q1 : Nat) (M : ao_M) (ρ : ao_H) (y : ao_S), fX12_init_c0 n 12 r0 q0 q1 M ρ = some y → ao_le ρ y.2) ∧ (∀ (r0 : Nat) (M : ao_M) (ρ : ao_H) (y : ao_S), fX12_init_c0 n 15 r0 0 0 M ρ = some y → ao_le ρ y.2) ∧ (∀ (r0 : Nat) (q0 : Nat) (q1 : Nat) (M : ao_M) (ρ : ao_H) (y : ao_S), fX12_init_c0 n 26 r0 q0 q1 M ρ = some y → ao_le ρ y.2) ∧ (∀ (r0 : Nat) (M : ao_M) (ρ : ao_H) (y : ao_S), fX12_init_c0 n 29 r0 0 0 M ρ = some y → ao_le ρ y.2) ∧ (∀ (r0 : Nat) (q0 : Nat) (q1 : Nat) (M : ao_M) (ρ : ao_H) (y : ao_S), fX12_init_c0 n 35 r0 q0 q1 M ρ = some y → ao_le ρ y.2) ∧ (∀ (r0 : Nat) (M : ao_M) (ρ : ao_H) (y : ao_S), fX12_init_c0 n 38 r0 0 0 M ρ = some y → ao_le ρ y.2) ∧ (∀ (r0 : Nat) (q0 : Nat) (q1 : Nat) (M : ao_M) (ρ : ao_H) (y : ao_S), fX12_init_c0 n 44 r0 q0 q1 M ρ = some y → ao_le ρ y.2) ∧ (∀ (r0 : Nat) (M : ao_M) (ρ : ao_H) (y : ao_S), fX12_init_c0 n 47 r0 0 0 M ρ = some y → ao_le ρ y.2) ∧ (∀ (r0 : Nat) (q0 : Nat) (q1 : Nat) (M : ao_M) (ρ : ao_H) (y : ao_S), fX12_init_c0 n 52 r0 q0 q1 M ρ = some y → ao_le ρ y.2) := by
  intro n
  induction n with
  | zero => exact ⟨fun _ _ _ _ h => ao_no h, fun _ _ _ _ _ _ h => ao_no h, fun _ _ _ _ h => ao_no h, fun _ _ _ _ _ _ h => ao_no h, fun _ _ _ _ h => ao_no h, fun _ _ _ _ _ _ h => ao_no h, fun _ _ _ _ h => ao_no h, fun _ _ _ _ _ _ h => ao_no h, fun _ _ _ _ h => ao_no h, fun _ _ _ _ _ _ h => ao_no h⟩
  | succ n ih =>
    refine ⟨?_, ?_, ?_, ?_, ?_, ?_, ?_, ?_, ?_, ?_⟩
    · intro r0 M ρ y h
      replace h := ao_ifT h rfl
      obtain ⟨n1, hn1, h⟩ := ao_bind h
      exact ao_le_tr (ao_le_nw _ _ _ _ _) (ih.2.1 r0 n1 r0 (ao_zr M n1) (ao_nw ρ n1 21 0 6) _ h)
    · intro r0 q0 q1 M ρ y h
      replace h := ao_ifF h (by decide)
      replace h := ao_ifT h rfl
      obtain ⟨-, h⟩ := ao_some h
      exact ao_le_tr (ao_le_r _ _ _ _) (ih.2.2.1 r0 M (ao_r ρ q1 1 (some q0)) _ h)
    · intro r0 M ρ y h
      replace h := ao_ifF h (by decide)
      replace h := ao_ifF h (by decide)
      replace h := ao_ifT h rfl
      obtain ⟨-, h⟩ := ao_some h
      replace h := ao_letD h rfl
      generalize (ao_u M r0 3 (-1 : Int32)) = M4 at h
      obtain ⟨n5, hn5, h⟩ := ao_bind h
      obtain ⟨-, h⟩ := ao_some h
      exact ao_le_tr (ao_le_nw _ _ _ _ _) (ih.2.2.2.1 r0 n5 r0 (ao_zr M4 n5) (ao_nw ρ n5 1 (1000 : Int32).toNatClampNeg (1000 : Int32).toNatClampNeg) _ h)
    · intro r0 q0 q1 M ρ y h
      replace h := ao_ifF h (by decide)
      replace h := ao_ifF h (by decide)
      replace h := ao_ifF h (by decide)
      replace h := ao_ifT h rfl
      obtain ⟨-, h⟩ := ao_some h
      exact ao_le_tr (ao_le_r _ _ _ _) (ih.2.2.2.2.1 r0 M (ao_r ρ q1 4 (some q0)) _ h)
    · intro r0 M ρ y h
      replace h := ao_ifF h (by decide)
      replace h := ao_ifF h (by decide)
      replace h := ao_ifF h (by decide)
      replace h := ao_ifF h (by decide)
      replace h := ao_ifT h rfl
      obtain ⟨n8, hn8, h⟩ := ao_bind h
      obtain ⟨-, h⟩ := ao_some h
      exact ao_le_tr (ao_le_nw _ _ _ _ _) (ih.2.2.2.2.2.1 r0 n8 r0 (ao_zr M n8) (ao_nw ρ n8 1 (1000 : Int32).toNatClampNeg (1000 : Int32).toNatClampNeg) _ h)
    · intro r0 q0 q1 M ρ y h
      replace h := ao_ifF h (by decide)
      replace h := ao_ifF h (by decide)
      replace h := ao_ifF h (by decide)
      replace h := ao_ifF h (by decide)
      replace h := ao_ifF h (by decide)
      replace h := ao_ifT h rfl
      obtain ⟨-, h⟩ := ao_some h
      exact ao_le_tr (ao_le_r _ _ _ _) (ih.2.2.2.2.2.2.1 r0 M (ao_r ρ q1 5 (some q0)) _ h)
    · intro r0 M ρ y h
      replace h := ao_ifF h (by decide)
      replace h := ao_ifF h (by decide)
      replace h := ao_ifF h (by decide)
      replace h := ao_ifF h (by decide)
      replace h := ao_ifF h (by decide)
      replace h := ao_ifF h (by decide)
      replace h := ao_ifT h rfl
      obtain ⟨n11, hn11, h⟩ := ao_bind h
      obtain ⟨-, h⟩ := ao_some h
      exact ao_le_tr (ao_le_nw _ _ _ _ _) (ih.2.2.2.2.2.2.2.1 r0 n11 r0 (ao_zr M n11) (ao_nw ρ n11 0 (18000 : Int32).toNatClampNeg (18000 : Int32).toNatClampNeg) _ h)
    · intro r0 q0 q1 M ρ y h
      replace h := ao_ifF h (by decide)
      replace h := ao_ifF h (by decide)
      replace h := ao_ifF h (by decide)
      replace h := ao_ifF h (by decide)
      replace h := ao_ifF h (by decide)
      replace h := ao_ifF h (by decide)
      replace h := ao_ifF h (by decide)
      replace h := ao_ifT h rfl
      obtain ⟨-, h⟩ := ao_some h
      exact ao_le_tr (ao_le_r _ _ _ _) (ih.2.2.2.2.2.2.2.2.1 r0 M (ao_r ρ q1 12 (some q0)) _ h)
    · intro r0 M ρ y h
      replace h := ao_ifF h (by decide)
      replace h := ao_ifF h (by decide)
      replace h := ao_ifF h (by decide)
      replace h := ao_ifF h (by decide)
      replace h := ao_ifF h (by decide)
      replace h := ao_ifF h (by decide)
      replace h := ao_ifF h (by decide)
      replace h := ao_ifF h (by decide)
      replace h := ao_ifT h rfl
      obtain ⟨n14, hn14, h⟩ := ao_bind h
      obtain ⟨-, h⟩ := ao_some h
      exact ao_le_tr (ao_le_nw _ _ _ _ _) (ih.2.2.2.2.2.2.2.2.2 r0 n14 r0 (ao_zr M n14) (ao_nw ρ n14 0 (26 : Int32).toNatClampNeg (26 : Int32).toNatClampNeg) _ h)
    · intro r0 q0 q1 M ρ y h
      replace h := ao_ifF h (by decide)
      replace h := ao_ifF h (by decide)
      replace h := ao_ifF h (by decide)
      replace h := ao_ifF h (by decide)
      replace h := ao_ifF h (by decide)
      replace h := ao_ifF h (by decide)
      replace h := ao_ifF h (by decide)
      replace h := ao_ifF h (by decide)
      replace h := ao_ifF h (by decide)
      replace h := ao_ifT h rfl
      obtain ⟨-, h⟩ := ao_some h
      exact ao_le_tr (ao_le_r _ _ _ _) ((mX12_init_c1 n).1 r0 M (ao_r ρ q1 17 (some q0)) _ h)
set_option maxRecDepth 100000 in
set_option maxHeartbeats 4000000 in
theorem wX12_init_c0 {Γ : ao_C} (d : Nat) (hd : 5 ≤ d) (MC MS : Nat) : ∀ n : Nat, (∀ (r0 : Nat) (M : ao_M) (ρ : ao_H) (y : ao_S), fX12_init_c0 n 0 r0 0 0 M ρ = some y → ao_W Γ uX12_init (ao_rm d MC MS) (ao_Q Γ (ao_QV y) MC MS) (ao_dc ρ y.2) (ao_ds ρ y.2) 0 [some (.ref (Γ.2.2.2 + r0))] [] (M, ρ)) ∧ (∀ (r0 : Nat) (q0 : Nat) (q1 : Nat) (M : ao_M) (ρ : ao_H) (y : ao_S), fX12_init_c0 n 12 r0 q0 q1 M ρ = some y → ao_W Γ uX12_init (ao_rm d MC MS) (ao_Q Γ (ao_QV y) MC MS) (ao_dc ρ y.2) (ao_ds ρ y.2) 12 [some (.ref (Γ.2.2.2 + r0))] [.ref (Γ.2.2.2 + q0), .ref (Γ.2.2.2 + q1)] (M, ρ)) ∧ (∀ (r0 : Nat) (M : ao_M) (ρ : ao_H) (y : ao_S), fX12_init_c0 n 15 r0 0 0 M ρ = some y → ao_W Γ uX12_init (ao_rm d MC MS) (ao_Q Γ (ao_QV y) MC MS) (ao_dc ρ y.2) (ao_ds ρ y.2) 15 [some (.ref (Γ.2.2.2 + r0))] [] (M, ρ)) ∧ (∀ (r0 : Nat) (q0 : Nat) (q1 : Nat) (M : ao_M) (ρ : ao_H) (y : ao_S), fX12_init_c0 n 26 r0 q0 q1 M ρ = some y → ao_W Γ uX12_init (ao_rm d MC MS) (ao_Q Γ (ao_QV y) MC MS) (ao_dc ρ y.2) (ao_ds ρ y.2) 26 [some (.ref (Γ.2.2.2 + r0))] [.ref (Γ.2.2.2 + q0), .ref (Γ.2.2.2 + q1)] (M, ρ)) ∧ (∀ (r0 : Nat) (M : ao_M) (ρ : ao_H) (y : ao_S), fX12_init_c0 n 29 r0 0 0 M ρ = some y → ao_W Γ uX12_init (ao_rm d MC MS) (ao_Q Γ (ao_QV y) MC MS) (ao_dc ρ y.2) (ao_ds ρ y.2) 29 [some (.ref (Γ.2.2.2 + r0))] [] (M, ρ)) ∧ (∀ (r0 : Nat) (q0 : Nat) (q1 : Nat) (M : ao_M) (ρ : ao_H) (y : ao_S), fX12_init_c0 n 35 r0 q0 q1 M ρ = some y → ao_W Γ uX12_init (ao_rm d MC MS) (ao_Q Γ (ao_QV y) MC MS) (ao_dc ρ y.2) (ao_ds ρ y.2) 35 [some (.ref (Γ.2.2.2 + r0))] [.ref (Γ.2.2.2 + q0), .ref (Γ.2.2.2 + q1)] (M, ρ)) ∧ (∀ (r0 : Nat) (M : ao_M) (ρ : ao_H) (y : ao_S), fX12_init_c0 n 38 r0 0 0 M ρ = some y → ao_W Γ uX12_init (ao_rm d MC MS) (ao_Q Γ (ao_QV y) MC MS) (ao_dc ρ y.2) (ao_ds ρ y.2) 38 [some (.ref (Γ.2.2.2 + r0))] [] (M, ρ)) ∧ (∀ (r0 : Nat) (q0 : Nat) (q1 : Nat) (M : ao_M) (ρ : ao_H) (y : ao_S), fX12_init_c0 n 44 r0 q0 q1 M ρ = some y → ao_W Γ uX12_init (ao_rm d MC MS) (ao_Q Γ (ao_QV y) MC MS) (ao_dc ρ y.2) (ao_ds ρ y.2) 44 [some (.ref (Γ.2.2.2 + r0))] [.ref (Γ.2.2.2 + q0), .ref (Γ.2.2.2 + q1)] (M, ρ)) ∧ (∀ (r0 : Nat) (M : ao_M) (ρ : ao_H) (y : ao_S), fX12_init_c0 n 47 r0 0 0 M ρ = some y → ao_W Γ uX12_init (ao_rm d MC MS) (ao_Q Γ (ao_QV y) MC MS) (ao_dc ρ y.2) (ao_ds ρ y.2) 47 [some (.ref (Γ.2.2.2 + r0))] [] (M, ρ)) ∧ (∀ (r0 : Nat) (q0 : Nat) (q1 : Nat) (M : ao_M) (ρ : ao_H) (y : ao_S), fX12_init_c0 n 52 r0 q0 q1 M ρ = some y → ao_W Γ uX12_init (ao_rm d MC MS) (ao_Q Γ (ao_QV y) MC MS) (ao_dc ρ y.2) (ao_ds ρ y.2) 52 [some (.ref (Γ.2.2.2 + r0))] [.ref (Γ.2.2.2 + q0), .ref (Γ.2.2.2 + q1)] (M, ρ)) := by
  intro n
  induction n with
  | zero => exact ⟨fun _ _ _ _ h => ao_no h, fun _ _ _ _ _ _ h => ao_no h, fun _ _ _ _ h => ao_no h, fun _ _ _ _ _ _ h => ao_no h, fun _ _ _ _ h => ao_no h, fun _ _ _ _ _ _ h => ao_no h, fun _ _ _ _ h => ao_no h, fun _ _ _ _ _ _ h => ao_no h, fun _ _ _ _ h => ao_no h, fun _ _ _ _ _ _ h => ao_no h⟩
  | succ n ih =>
    refine ⟨?_, ?_, ?_, ?_, ?_, ?_, ?_, ?_, ?_, ?_⟩
    · intro r0 M ρ y h
      replace h := ao_ifT h rfl
      refine ao_aload_n 0 dX12_init_0 rfl rfl ?_
      refine bi_obj dX12_init_1 loi_X12_163 (Nat.le_of_ble_eq_true rfl) (ao_cpR (by omega)) ?_
      refine ao_aload_n 0 dX12_init_4 rfl rfl ?_
      obtain ⟨n1, hn1, h⟩ := ao_bind h
      refine bi_broken n1 (host := "AsOneHouseModel") dX12_init_5 dX12_init_8 dX12_init_9 hn1 bk_lM bk_nM (Nat.le_of_ble_eq_true rfl) ⟨by show 5 ≤ d; omega, by show 276 ≤ 64 * d; omega⟩ (ao_dc_nw ((mX12_init_c0 n).2.1 r0 n1 r0 (ao_zr M n1) (ao_nw ρ n1 21 0 6) _ h)) ?_
      exact ih.2.1 r0 n1 r0 (ao_zr M n1) (ao_nw ρ n1 21 0 6) _ h
    · intro r0 q0 q1 M ρ y h
      replace h := ao_ifF h (by decide)
      replace h := ao_ifT h rfl
      obtain ⟨hk2, h⟩ := ao_some h
      refine ba_putR q1 12 1 (q := (RX12, TX12, 83)) dX12_init_12 rfl hk2 (Nat.le_of_ble_eq_true rfl) lf_X12_10 (Or.inr ⟨rfl, rfl⟩) rfl rfl rfl ?_
      exact ih.2.2.1 r0 M (ao_r ρ q1 1 (some q0)) _ h
    · intro r0 M ρ y h
      replace h := ao_ifF h (by decide)
      replace h := ao_ifF h (by decide)
      replace h := ao_ifT h rfl
      refine ao_aload_n 0 dX12_init_15 rfl rfl ?_
      refine ao_iconst (v := (-1)) dX12_init_16 (by decide) ?_
      obtain ⟨hk3, h⟩ := ao_some h
      refine an_putI r0 12 3 (q := (RX12, TX12, 83)) dX12_init_17 rfl hk3 (Nat.le_of_ble_eq_true rfl) lf_X12_171 rfl rfl rfl rfl (fun M4 hM4 => ?_)
      replace h := ao_letD h hM4
      refine ao_aload_n 0 dX12_init_20 rfl rfl ?_
      refine ao_sipush (v := 1000) dX12_init_21 (by decide) ?_
      obtain ⟨n5, hn5, h⟩ := ao_bind h
      obtain ⟨hb6, h⟩ := ao_some h
      refine ba_newa n5 1 dX12_init_24 rfl (by decide) hn5 lna_1 hb6.1 hb6.2 (ao_dc_nw ((mX12_init_c0 n).2.2.2.1 r0 n5 r0 (ao_zr M4 n5) (ao_nw ρ n5 1 (1000 : Int32).toNatClampNeg (1000 : Int32).toNatClampNeg) _ h)) ?_
      exact ih.2.2.2.1 r0 n5 r0 (ao_zr M4 n5) (ao_nw ρ n5 1 (1000 : Int32).toNatClampNeg (1000 : Int32).toNatClampNeg) _ h
    · intro r0 q0 q1 M ρ y h
      replace h := ao_ifF h (by decide)
      replace h := ao_ifF h (by decide)
      replace h := ao_ifF h (by decide)
      replace h := ao_ifT h rfl
      obtain ⟨hk7, h⟩ := ao_some h
      refine ba_putR q1 12 4 (q := (RX12, TX12, 83)) dX12_init_26 rfl hk7 (Nat.le_of_ble_eq_true rfl) lf_X12_174 (Or.inr ⟨rfl, rfl⟩) rfl rfl rfl ?_
      exact ih.2.2.2.2.1 r0 M (ao_r ρ q1 4 (some q0)) _ h
    · intro r0 M ρ y h
      replace h := ao_ifF h (by decide)
      replace h := ao_ifF h (by decide)
      replace h := ao_ifF h (by decide)
      replace h := ao_ifF h (by decide)
      replace h := ao_ifT h rfl
      refine ao_aload_n 0 dX12_init_29 rfl rfl ?_
      refine ao_sipush (v := 1000) dX12_init_30 (by decide) ?_
      obtain ⟨n8, hn8, h⟩ := ao_bind h
      obtain ⟨hb9, h⟩ := ao_some h
      refine ba_newa n8 1 dX12_init_33 rfl (by decide) hn8 lna_1 hb9.1 hb9.2 (ao_dc_nw ((mX12_init_c0 n).2.2.2.2.2.1 r0 n8 r0 (ao_zr M n8) (ao_nw ρ n8 1 (1000 : Int32).toNatClampNeg (1000 : Int32).toNatClampNeg) _ h)) ?_
      exact ih.2.2.2.2.2.1 r0 n8 r0 (ao_zr M n8) (ao_nw ρ n8 1 (1000 : Int32).toNatClampNeg (1000 : Int32).toNatClampNeg) _ h
    · intro r0 q0 q1 M ρ y h
      replace h := ao_ifF h (by decide)
      replace h := ao_ifF h (by decide)
      replace h := ao_ifF h (by decide)
      replace h := ao_ifF h (by decide)
      replace h := ao_ifF h (by decide)
      replace h := ao_ifT h rfl
      obtain ⟨hk10, h⟩ := ao_some h
      refine ba_putR q1 12 5 (q := (RX12, TX12, 83)) dX12_init_35 rfl hk10 (Nat.le_of_ble_eq_true rfl) lf_X12_17 (Or.inr ⟨rfl, rfl⟩) rfl rfl rfl ?_
      exact ih.2.2.2.2.2.2.1 r0 M (ao_r ρ q1 5 (some q0)) _ h
    · intro r0 M ρ y h
      replace h := ao_ifF h (by decide)
      replace h := ao_ifF h (by decide)
      replace h := ao_ifF h (by decide)
      replace h := ao_ifF h (by decide)
      replace h := ao_ifF h (by decide)
      replace h := ao_ifF h (by decide)
      replace h := ao_ifT h rfl
      refine ao_aload_n 0 dX12_init_38 rfl rfl ?_
      refine ao_sipush (v := 18000) dX12_init_39 (by decide) ?_
      obtain ⟨n11, hn11, h⟩ := ao_bind h
      obtain ⟨hb12, h⟩ := ao_some h
      refine ba_newa n11 0 dX12_init_42 rfl (by decide) hn11 lna_0 hb12.1 hb12.2 (ao_dc_nw ((mX12_init_c0 n).2.2.2.2.2.2.2.1 r0 n11 r0 (ao_zr M n11) (ao_nw ρ n11 0 (18000 : Int32).toNatClampNeg (18000 : Int32).toNatClampNeg) _ h)) ?_
      exact ih.2.2.2.2.2.2.2.1 r0 n11 r0 (ao_zr M n11) (ao_nw ρ n11 0 (18000 : Int32).toNatClampNeg (18000 : Int32).toNatClampNeg) _ h
    · intro r0 q0 q1 M ρ y h
      replace h := ao_ifF h (by decide)
      replace h := ao_ifF h (by decide)
      replace h := ao_ifF h (by decide)
      replace h := ao_ifF h (by decide)
      replace h := ao_ifF h (by decide)
      replace h := ao_ifF h (by decide)
      replace h := ao_ifF h (by decide)
      replace h := ao_ifT h rfl
      obtain ⟨hk13, h⟩ := ao_some h
      refine ba_putR q1 12 12 (q := (RX12, TX12, 83)) dX12_init_44 rfl hk13 (Nat.le_of_ble_eq_true rfl) lf_X12_74 (Or.inr ⟨rfl, rfl⟩) rfl rfl rfl ?_
      exact ih.2.2.2.2.2.2.2.2.1 r0 M (ao_r ρ q1 12 (some q0)) _ h
    · intro r0 M ρ y h
      replace h := ao_ifF h (by decide)
      replace h := ao_ifF h (by decide)
      replace h := ao_ifF h (by decide)
      replace h := ao_ifF h (by decide)
      replace h := ao_ifF h (by decide)
      replace h := ao_ifF h (by decide)
      replace h := ao_ifF h (by decide)
      replace h := ao_ifF h (by decide)
      replace h := ao_ifT h rfl
      refine ao_aload_n 0 dX12_init_47 rfl rfl ?_
      refine ao_bipush (v := 26) dX12_init_48 (by decide) ?_
      obtain ⟨n14, hn14, h⟩ := ao_bind h
      obtain ⟨hb15, h⟩ := ao_some h
      refine ba_newa n14 0 dX12_init_50 rfl (by decide) hn14 lna_0 hb15.1 hb15.2 (ao_dc_nw ((mX12_init_c0 n).2.2.2.2.2.2.2.2.2 r0 n14 r0 (ao_zr M n14) (ao_nw ρ n14 0 (26 : Int32).toNatClampNeg (26 : Int32).toNatClampNeg) _ h)) ?_
      exact ih.2.2.2.2.2.2.2.2.2 r0 n14 r0 (ao_zr M n14) (ao_nw ρ n14 0 (26 : Int32).toNatClampNeg (26 : Int32).toNatClampNeg) _ h
    · intro r0 q0 q1 M ρ y h
      replace h := ao_ifF h (by decide)
      replace h := ao_ifF h (by decide)
      replace h := ao_ifF h (by decide)
      replace h := ao_ifF h (by decide)
      replace h := ao_ifF h (by decide)
      replace h := ao_ifF h (by decide)
      replace h := ao_ifF h (by decide)
      replace h := ao_ifF h (by decide)
      replace h := ao_ifF h (by decide)
      replace h := ao_ifT h rfl
      obtain ⟨hk16, h⟩ := ao_some h
      refine ba_putR q1 12 17 (q := (RX12, TX12, 83)) dX12_init_52 rfl hk16 (Nat.le_of_ble_eq_true rfl) lf_X12_151 (Or.inr ⟨rfl, rfl⟩) rfl rfl rfl ?_
      exact (wX12_init_c1 d hd MC MS n).1 r0 M (ao_r ρ q1 17 (some q0)) _ h
def gX12_init (n : Nat) (r0 : Nat) (M : ao_M) (ρ : ao_H) : Option (ao_S) := fX12_init_c0 n 0 r0 0 0 M ρ
theorem me_X12_init (n : Nat) (r0 : Nat) (M : ao_M) (ρ : ao_H) {y : ao_S} (h : gX12_init n r0 M ρ = some y) : ao_le ρ y.2 := (mX12_init_c0 n).1 r0 M ρ y h
theorem aX12_init {Γ : ao_C} (d : Nat) (hd : 5 ≤ d) (n : Nat) (r0 : Nat) (M : ao_M) (ρ : ao_H) {y : ao_S} (h : gX12_init n r0 M ρ = some y) : ao_A Γ uX12_init d (ao_dc ρ y.2) (ao_ds ρ y.2) [.ref (Γ.2.2.2 + r0)] (M, ρ) (ao_QV y) := by
  refine ao_of (by decide) (ao_cat1 (Nat.le_of_ble_eq_true rfl)) (Nat.le_of_ble_eq_true rfl) ?_
  show ao_W Γ uX12_init (ao_rm d (ao_dc ρ y.2) (ao_ds ρ y.2)) (ao_Q Γ (ao_QV y) (ao_dc ρ y.2) (ao_ds ρ y.2)) (ao_dc ρ y.2) (ao_ds ρ y.2) 0 [some (.ref (Γ.2.2.2 + r0))] [] (M, ρ)
  exact (wX12_init_c0 d hd _ _ n).1 r0 M ρ y h
