abbrev uX0_init : ao_Mi := (yX0_init, cX0_init, 1, none, [])
def fX0_init : Nat → Nat → Nat → Nat → Nat →  ao_M → ao_H → Option (ao_S)
  | 0, _, _, _, _, _, _ => none
  | n + 1, pc, r0, q0, q1, M, ρ =>
    if pc = 0 then
      (ρ.2.2.2.1).bind fun n1 =>
      if ¬ (14 : Int32) < 0 ∧ (14 : Int32).toNatClampNeg * 8 ≤ 536870912 then
      fX0_init n 9 r0 n1 r0 (ao_zr M n1) (ao_nw ρ n1 0 (14 : Int32).toNatClampNeg (14 : Int32).toNatClampNeg)
      else none
    else if pc = 9 then
      if ρ.2.1 q1 = 10 then
      fX0_init n 12 r0 0 0 M (ao_r ρ q1 0 (some q0))
      else none
    else if pc = 12 then
      (ρ.2.2.2.1).bind fun n4 =>
      if (¬ (15 : Int32) < 0 ∧ ¬ (26 : Int32) < 0) ∧ (15 : Int32).toNatClampNeg ≤ 10000 ∧ (26 : Int32).toNatClampNeg ≤ 10000 then
      fX0_init n 21 r0 n4 r0 (ao_zq M n4 (15 : Int32).toNatClampNeg) (ao_nq ρ n4 (15 : Int32).toNatClampNeg (26 : Int32).toNatClampNeg)
      else none
    else if pc = 21 then
      if ρ.2.1 q1 = 10 then
      fX0_init n 24 r0 0 0 M (ao_r ρ q1 2 (some q0))
      else none
    else if pc = 24 then
      (ρ.2.2.2.1).bind fun n7 =>
      if ¬ (14 : Int32) < 0 ∧ (14 : Int32).toNatClampNeg * 8 ≤ 536870912 then
      fX0_init n 29 r0 n7 r0 (ao_zr M n7) (ao_nw ρ n7 0 (14 : Int32).toNatClampNeg (14 : Int32).toNatClampNeg)
      else none
    else if pc = 29 then
      if ρ.2.1 q1 = 10 then
      fX0_init n 32 r0 0 0 M (ao_r ρ q1 3 (some q0))
      else none
    else if pc = 32 then
      some (M, ρ)
    else none
def gX0_init (n : Nat) (r0 : Nat) (M : ao_M) (ρ : ao_H) : Option (ao_S) := fX0_init n 0 r0 0 0 M ρ
set_option maxRecDepth 100000 in
set_option maxHeartbeats 4000000 in
theorem mX0_init : ∀ n : Nat, (∀ (r0 : Nat) (M : ao_M) (ρ : ao_H) (y : ao_S), fX0_init n 0 r0 0 0 M ρ = some y → ao_le ρ y.2) ∧ (∀ (r0 : Nat) (q0 : Nat) (q1 : Nat) (M : ao_M) (ρ : ao_H) (y : ao_S), fX0_init n 9 r0 q0 q1 M ρ = some y → ao_le ρ y.2) ∧ (∀ (r0 : Nat) (M : ao_M) (ρ : ao_H) (y : ao_S), fX0_init n 12 r0 0 0 M ρ = some y → ao_le ρ y.2) ∧ (∀ (r0 : Nat) (q0 : Nat) (q1 : Nat) (M : ao_M) (ρ : ao_H) (y : ao_S), fX0_init n 21 r0 q0 q1 M ρ = some y → ao_le ρ y.2) ∧ (∀ (r0 : Nat) (M : ao_M) (ρ : ao_H) (y : ao_S), fX0_init n 24 r0 0 0 M ρ = some y → ao_le ρ y.2) ∧ (∀ (r0 : Nat) (q0 : Nat) (q1 : Nat) (M : ao_M) (ρ : ao_H) (y : ao_S), fX0_init n 29 r0 q0 q1 M ρ = some y → ao_le ρ y.2) ∧ (∀ (r0 : Nat) (M : ao_M) (ρ : ao_H) (y : ao_S), fX0_init n 32 r0 0 0 M ρ = some y → ao_le ρ y.2) := by
  intro n
  induction n with
  | zero => exact ⟨fun _ _ _ _ h => ao_no h, fun _ _ _ _ _ _ h => ao_no h, fun _ _ _ _ h => ao_no h, fun _ _ _ _ _ _ h => ao_no h, fun _ _ _ _ h => ao_no h, fun _ _ _ _ _ _ h => ao_no h, fun _ _ _ _ h => ao_no h⟩
  | succ n ih =>
    refine ⟨?_, ?_, ?_, ?_, ?_, ?_, ?_⟩
    · intro r0 M ρ y h
      replace h := ao_ifT h rfl
      obtain ⟨n1, hn1, h⟩ := ao_bind h
      obtain ⟨-, h⟩ := ao_some h
      exact ao_le_tr (ao_le_nw _ _ _ _ _) (ih.2.1 r0 n1 r0 (ao_zr M n1) (ao_nw ρ n1 0 (14 : Int32).toNatClampNeg (14 : Int32).toNatClampNeg) _ h)
    · intro r0 q0 q1 M ρ y h
      replace h := ao_ifF h (by decide)
      replace h := ao_ifT h rfl
      obtain ⟨-, h⟩ := ao_some h
      exact ao_le_tr (ao_le_r _ _ _ _) (ih.2.2.1 r0 M (ao_r ρ q1 0 (some q0)) _ h)
    · intro r0 M ρ y h
      replace h := ao_ifF h (by decide)
      replace h := ao_ifF h (by decide)
      replace h := ao_ifT h rfl
      obtain ⟨n4, hn4, h⟩ := ao_bind h
      obtain ⟨-, h⟩ := ao_some h
      exact ao_le_tr (ao_le_nq _ _ _ _) (ih.2.2.2.1 r0 n4 r0 (ao_zq M n4 (15 : Int32).toNatClampNeg) (ao_nq ρ n4 (15 : Int32).toNatClampNeg (26 : Int32).toNatClampNeg) _ h)
    · intro r0 q0 q1 M ρ y h
      replace h := ao_ifF h (by decide)
      replace h := ao_ifF h (by decide)
      replace h := ao_ifF h (by decide)
      replace h := ao_ifT h rfl
      obtain ⟨-, h⟩ := ao_some h
      exact ao_le_tr (ao_le_r _ _ _ _) (ih.2.2.2.2.1 r0 M (ao_r ρ q1 2 (some q0)) _ h)
    · intro r0 M ρ y h
      replace h := ao_ifF h (by decide)
      replace h := ao_ifF h (by decide)
      replace h := ao_ifF h (by decide)
      replace h := ao_ifF h (by decide)
      replace h := ao_ifT h rfl
      obtain ⟨n7, hn7, h⟩ := ao_bind h
      obtain ⟨-, h⟩ := ao_some h
      exact ao_le_tr (ao_le_nw _ _ _ _ _) (ih.2.2.2.2.2.1 r0 n7 r0 (ao_zr M n7) (ao_nw ρ n7 0 (14 : Int32).toNatClampNeg (14 : Int32).toNatClampNeg) _ h)
    · intro r0 q0 q1 M ρ y h
      replace h := ao_ifF h (by decide)
      replace h := ao_ifF h (by decide)
      replace h := ao_ifF h (by decide)
      replace h := ao_ifF h (by decide)
      replace h := ao_ifF h (by decide)
      replace h := ao_ifT h rfl
      obtain ⟨-, h⟩ := ao_some h
      exact ao_le_tr (ao_le_r _ _ _ _) (ih.2.2.2.2.2.2 r0 M (ao_r ρ q1 3 (some q0)) _ h)
    · intro r0 M ρ y h
      replace h := ao_ifF h (by decide)
      replace h := ao_ifF h (by decide)
      replace h := ao_ifF h (by decide)
      replace h := ao_ifF h (by decide)
      replace h := ao_ifF h (by decide)
      replace h := ao_ifF h (by decide)
      replace h := ao_ifT h rfl
      cases h
      exact ao_le_rf _
set_option maxRecDepth 100000 in
set_option maxHeartbeats 4000000 in
theorem wX0_init {Γ : ao_C} (d : Nat) (hd : 1 ≤ d) (MC MS : Nat) : ∀ n : Nat, (∀ (r0 : Nat) (M : ao_M) (ρ : ao_H) (y : ao_S), fX0_init n 0 r0 0 0 M ρ = some y → ao_W Γ uX0_init (ao_rm d MC MS) (ao_Q Γ (ao_QV y) MC MS) (ao_dc ρ y.2) (ao_ds ρ y.2) 0 [some (.ref (Γ.2.2.2 + r0))] [] (M, ρ)) ∧ (∀ (r0 : Nat) (q0 : Nat) (q1 : Nat) (M : ao_M) (ρ : ao_H) (y : ao_S), fX0_init n 9 r0 q0 q1 M ρ = some y → ao_W Γ uX0_init (ao_rm d MC MS) (ao_Q Γ (ao_QV y) MC MS) (ao_dc ρ y.2) (ao_ds ρ y.2) 9 [some (.ref (Γ.2.2.2 + r0))] [.ref (Γ.2.2.2 + q0), .ref (Γ.2.2.2 + q1)] (M, ρ)) ∧ (∀ (r0 : Nat) (M : ao_M) (ρ : ao_H) (y : ao_S), fX0_init n 12 r0 0 0 M ρ = some y → ao_W Γ uX0_init (ao_rm d MC MS) (ao_Q Γ (ao_QV y) MC MS) (ao_dc ρ y.2) (ao_ds ρ y.2) 12 [some (.ref (Γ.2.2.2 + r0))] [] (M, ρ)) ∧ (∀ (r0 : Nat) (q0 : Nat) (q1 : Nat) (M : ao_M) (ρ : ao_H) (y : ao_S), fX0_init n 21 r0 q0 q1 M ρ = some y → ao_W Γ uX0_init (ao_rm d MC MS) (ao_Q Γ (ao_QV y) MC MS) (ao_dc ρ y.2) (ao_ds ρ y.2) 21 [some (.ref (Γ.2.2.2 + r0))] [.ref (Γ.2.2.2 + q0), .ref (Γ.2.2.2 + q1)] (M, ρ)) ∧ (∀ (r0 : Nat) (M : ao_M) (ρ : ao_H) (y : ao_S), fX0_init n 24 r0 0 0 M ρ = some y → ao_W Γ uX0_init (ao_rm d MC MS) (ao_Q Γ (ao_QV y) MC MS) (ao_dc ρ y.2) (ao_ds ρ y.2) 24 [some (.ref (Γ.2.2.2 + r0))] [] (M, ρ)) ∧ (∀ (r0 : Nat) (q0 : Nat) (q1 : Nat) (M : ao_M) (ρ : ao_H) (y : ao_S), fX0_init n 29 r0 q0 q1 M ρ = some y → ao_W Γ uX0_init (ao_rm d MC MS) (ao_Q Γ (ao_QV y) MC MS) (ao_dc ρ y.2) (ao_ds ρ y.2) 29 [some (.ref (Γ.2.2.2 + r0))] [.ref (Γ.2.2.2 + q0), .ref (Γ.2.2.2 + q1)] (M, ρ)) ∧ (∀ (r0 : Nat) (M : ao_M) (ρ : ao_H) (y : ao_S), fX0_init n 32 r0 0 0 M ρ = some y → ao_W Γ uX0_init (ao_rm d MC MS) (ao_Q Γ (ao_QV y) MC MS) (ao_dc ρ y.2) (ao_ds ρ y.2) 32 [some (.ref (Γ.2.2.2 + r0))] [] (M, ρ)) := by
  intro n
  induction n with
  | zero => exact ⟨fun _ _ _ _ h => ao_no h, fun _ _ _ _ _ _ h => ao_no h, fun _ _ _ _ h => ao_no h, fun _ _ _ _ _ _ h => ao_no h, fun _ _ _ _ h => ao_no h, fun _ _ _ _ _ _ h => ao_no h, fun _ _ _ _ h => ao_no h⟩
  | succ n ih =>
    refine ⟨?_, ?_, ?_, ?_, ?_, ?_, ?_⟩
    · intro r0 M ρ y h
      replace h := ao_ifT h rfl
      refine ao_aload_n 0 dX0_init_0 rfl rfl ?_
      refine bi_obj dX0_init_1 loi_X0_3 (Nat.le_of_ble_eq_true rfl) (ao_cpR (by omega)) ?_
      refine ao_aload_n 0 dX0_init_4 rfl rfl ?_
      refine ao_bipush (v := 14) dX0_init_5 (by decide) ?_
      obtain ⟨n1, hn1, h⟩ := ao_bind h
      obtain ⟨hb2, h⟩ := ao_some h
      refine ba_newa n1 0 dX0_init_7 rfl (by decide) hn1 lna_0 hb2.1 hb2.2 (ao_dc_nw ((mX0_init n).2.1 r0 n1 r0 (ao_zr M n1) (ao_nw ρ n1 0 (14 : Int32).toNatClampNeg (14 : Int32).toNatClampNeg) _ h)) ?_
      exact ih.2.1 r0 n1 r0 (ao_zr M n1) (ao_nw ρ n1 0 (14 : Int32).toNatClampNeg (14 : Int32).toNatClampNeg) _ h
    · intro r0 q0 q1 M ρ y h
      replace h := ao_ifF h (by decide)
      replace h := ao_ifT h rfl
      obtain ⟨hk3, h⟩ := ao_some h
      refine ba_putR q1 0 0 (q := (RX0, TX0, 5)) dX0_init_9 rfl hk3 (Nat.le_of_ble_eq_true rfl) lf_X0_9 (Or.inr ⟨rfl, rfl⟩) rfl rfl rfl ?_
      exact ih.2.2.1 r0 M (ao_r ρ q1 0 (some q0)) _ h
    · intro r0 M ρ y h
      replace h := ao_ifF h (by decide)
      replace h := ao_ifF h (by decide)
      replace h := ao_ifT h rfl
      refine ao_aload_n 0 dX0_init_12 rfl rfl ?_
      refine ao_bipush (v := 15) dX0_init_13 (by decide) ?_
      refine ao_bipush (v := 26) dX0_init_15 (by decide) ?_
      obtain ⟨n4, hn4, h⟩ := ao_bind h
      obtain ⟨hb5, h⟩ := ao_some h
      refine bi_multi n4 dX0_init_17 hn4 lma_X0_15 hb5 (ao_dc_nq ((mX0_init n).2.2.2.1 r0 n4 r0 (ao_zq M n4 (15 : Int32).toNatClampNeg) (ao_nq ρ n4 (15 : Int32).toNatClampNeg (26 : Int32).toNatClampNeg) _ h)) ?_
      exact ih.2.2.2.1 r0 n4 r0 (ao_zq M n4 (15 : Int32).toNatClampNeg) (ao_nq ρ n4 (15 : Int32).toNatClampNeg (26 : Int32).toNatClampNeg) _ h
    · intro r0 q0 q1 M ρ y h
      replace h := ao_ifF h (by decide)
      replace h := ao_ifF h (by decide)
      replace h := ao_ifF h (by decide)
      replace h := ao_ifT h rfl
      obtain ⟨hk6, h⟩ := ao_some h
      refine ba_putR q1 0 2 (q := (RX0, TX0, 5)) dX0_init_21 rfl hk6 (Nat.le_of_ble_eq_true rfl) lf_X0_17 (Or.inr ⟨rfl, rfl⟩) rfl rfl rfl ?_
      exact ih.2.2.2.2.1 r0 M (ao_r ρ q1 2 (some q0)) _ h
    · intro r0 M ρ y h
      replace h := ao_ifF h (by decide)
      replace h := ao_ifF h (by decide)
      replace h := ao_ifF h (by decide)
      replace h := ao_ifF h (by decide)
      replace h := ao_ifT h rfl
      refine ao_aload_n 0 dX0_init_24 rfl rfl ?_
      refine ao_bipush (v := 14) dX0_init_25 (by decide) ?_
      obtain ⟨n7, hn7, h⟩ := ao_bind h
      obtain ⟨hb8, h⟩ := ao_some h
      refine ba_newa n7 0 dX0_init_27 rfl (by decide) hn7 lna_0 hb8.1 hb8.2 (ao_dc_nw ((mX0_init n).2.2.2.2.2.1 r0 n7 r0 (ao_zr M n7) (ao_nw ρ n7 0 (14 : Int32).toNatClampNeg (14 : Int32).toNatClampNeg) _ h)) ?_
      exact ih.2.2.2.2.2.1 r0 n7 r0 (ao_zr M n7) (ao_nw ρ n7 0 (14 : Int32).toNatClampNeg (14 : Int32).toNatClampNeg) _ h
    · intro r0 q0 q1 M ρ y h
      replace h := ao_ifF h (by decide)
      replace h := ao_ifF h (by decide)
      replace h := ao_ifF h (by decide)
      replace h := ao_ifF h (by decide)
      replace h := ao_ifF h (by decide)
      replace h := ao_ifT h rfl
      obtain ⟨hk9, h⟩ := ao_some h
      refine ba_putR q1 0 3 (q := (RX0, TX0, 5)) dX0_init_29 rfl hk9 (Nat.le_of_ble_eq_true rfl) lf_X0_20 (Or.inr ⟨rfl, rfl⟩) rfl rfl rfl ?_
      exact ih.2.2.2.2.2.2 r0 M (ao_r ρ q1 3 (some q0)) _ h
    · intro r0 M ρ y h
      replace h := ao_ifF h (by decide)
      replace h := ao_ifF h (by decide)
      replace h := ao_ifF h (by decide)
      replace h := ao_ifF h (by decide)
      replace h := ao_ifF h (by decide)
      replace h := ao_ifF h (by decide)
      replace h := ao_ifT h rfl
      cases h
      exact ao_return dX0_init_32 rfl ⟨rfl, rfl⟩
theorem me_X0_init (n : Nat) (r0 : Nat) (M : ao_M) (ρ : ao_H) {y : ao_S} (h : gX0_init n r0 M ρ = some y) : ao_le ρ y.2 := (mX0_init n).1 r0 M ρ y h
set_option maxRecDepth 100000 in
set_option maxHeartbeats 4000000 in
theorem aX0_init {Γ : ao_C} (d : Nat) (hd : 1 ≤ d) (n : Nat) (r0 : Nat) (M : ao_M) (ρ : ao_H) {y : ao_S} (h : gX0_init n r0 M ρ = some y) : ao_A Γ uX0_init d (ao_dc ρ y.2) (ao_ds ρ y.2) [.ref (Γ.2.2.2 + r0)] (M, ρ) (ao_QV y) := by
  refine ao_of (by decide) (ao_cat1 (Nat.le_of_ble_eq_true rfl)) (Nat.le_of_ble_eq_true rfl) ?_
  show ao_W Γ uX0_init (ao_rm d (ao_dc ρ y.2) (ao_ds ρ y.2)) (ao_Q Γ (ao_QV y) (ao_dc ρ y.2) (ao_ds ρ y.2)) (ao_dc ρ y.2) (ao_ds ρ y.2) 0 [some (.ref (Γ.2.2.2 + r0))] [] (M, ρ)
  exact (wX0_init d hd _ _ n).1 r0 M ρ y h

abbrev uX0_forget : ao_Mi := (yX0_forget, cX0_forget, 1, none, [])
def gX0_forget (r0 : Nat) (M : ao_M) (ρ : ao_H) : Option (ao_M) :=
  if ρ.2.1 r0 = 10 then
  ao_let (ao_u M r0 1 (0 : Int32)) fun M2 =>
  some M2
  else none
set_option maxRecDepth 100000 in
set_option maxHeartbeats 4000000 in
theorem aX0_forget {Γ : ao_C} (d : Nat) (hd : 0 ≤ d) (r0 : Nat) (M : ao_M) (ρ : ao_H) {y : ao_M} (h : gX0_forget r0 M ρ = some y) : ao_A Γ uX0_forget d 0 0 [.ref (Γ.2.2.2 + r0)] (M, ρ) (ao_PV ρ y) := by
  refine ao_of (by decide) (ao_cat1 (Nat.le_of_ble_eq_true rfl)) (Nat.le_of_ble_eq_true rfl) ?_
  show ao_W Γ uX0_forget (ao_rm d 0 0) (ao_Q Γ (ao_PV ρ y) 0 0) 0 0 0 [some (.ref (Γ.2.2.2 + r0))] [] (M, ρ)
  unfold gX0_forget at h
  refine ao_aload_n 0 dX0_forget_0 rfl rfl ?_
  refine ao_iconst (v := 0) dX0_forget_1 (by decide) ?_
  obtain ⟨hk1, h⟩ := ao_some h
  refine an_putI r0 0 1 (q := (RX0, TX0, 5)) dX0_forget_2 rfl hk1 (Nat.le_of_ble_eq_true rfl) lf_X0_23 rfl rfl rfl rfl (fun M2 hM2 => ?_)
  replace h := ao_letD h hM2
  cases h
  exact ao_return dX0_forget_5 rfl ⟨rfl, rfl⟩

abbrev uX0_isAsItIs : ao_Mi := (yX0_isAsItIs, cX0_isAsItIs, 4, (some .boolean), [])
def fX0_isAsItIs : Nat → Nat → Nat → Nat → Int32 → Int32 →  ao_M → ao_H → Option (Int32 × ao_M)
  | 0, _, _, _, _, _, _, _ => none
  | n + 1, pc, r0, r1, x2, x3, M, ρ =>
    if pc = 0 then
      if x2 < 0 then
        some ((0 : Int32), M)
      else
        if x2 ≤ (14 : Int32) then
          fX0_isAsItIs n 14 r0 r1 x2 (0 : Int32) M ρ
        else
          some ((0 : Int32), M)
    else if pc = 14 then
      if (26 : Int32) ≤ x3 then
        some ((1 : Int32), M)
      else
        if ρ.2.1 r1 = 15 then
        (ρ.1 r1 2).bind fun j5 =>
        if ρ.2.1 j5 = 0 then
        if ¬ (x3 < 0 ∨ ρ.2.2.1 j5 ≤ x3.toNatClampNeg) then
        if (M j5 x3.toNatClampNeg) = (-1 : Int32) then
          (ρ.1 r1 0).bind fun j9 =>
          if ρ.2.1 j9 = 0 then
          if ¬ (x3 < 0 ∨ ρ.2.2.1 j9 ≤ x3.toNatClampNeg) then
          if ρ.2.1 r0 = 10 then
          (ρ.1 r0 2).bind fun j13 =>
          if ρ.2.1 j13 = 6 then
          if ¬ (x2 < 0 ∨ ρ.2.2.1 j13 ≤ x2.toNatClampNeg) then
          (ρ.1 j13 x2.toNatClampNeg).bind fun j16 =>
          if ρ.2.1 j16 = 0 then
          if ¬ (x3 < 0 ∨ ρ.2.2.1 j16 ≤ x3.toNatClampNeg) then
          if (M j9 x3.toNatClampNeg) = (M j16 x3.toNatClampNeg) then
            fX0_isAsItIs n 49 r0 r1 x2 x3 M ρ
          else
            some ((0 : Int32), M)
          else none
          else none
          else none
          else none
          else none
          else none
          else none
        else
          fX0_isAsItIs n 49 r0 r1 x2 x3 M ρ
        else none
        else none
        else none
    else if pc = 49 then
      ao_let (x3 + (1 : Int32)) fun v20 =>
      fX0_isAsItIs n 14 r0 r1 x2 v20 M ρ
    else none
def gX0_isAsItIs (n : Nat) (r0 : Nat) (r1 : Nat) (x2 : Int32) (M : ao_M) (ρ : ao_H) : Option (Int32 × ao_M) := fX0_isAsItIs n 0 r0 r1 x2 0 M ρ
set_option maxRecDepth 100000 in
set_option maxHeartbeats 4000000 in
theorem wX0_isAsItIs {Γ : ao_C} {ρ : ao_H} (d : Nat) (hd : 0 ≤ d) : ∀ n : Nat, (∀ (r0 : Nat) (r1 : Nat) (x2 : Int32) (M : ao_M) (y : Int32 × ao_M), fX0_isAsItIs n 0 r0 r1 x2 0 M ρ = some y → ao_W Γ uX0_isAsItIs (ao_rm d 0 0) (ao_Q Γ (ao_PI ρ y) 0 0) 0 0 0 [some (.ref (Γ.2.2.2 + r0)), some (.ref (Γ.2.2.2 + r1)), some (.int x2), none] [] (M, ρ)) ∧ (∀ (r0 : Nat) (r1 : Nat) (x2 : Int32) (x3 : Int32) (M : ao_M) (y : Int32 × ao_M), fX0_isAsItIs n 14 r0 r1 x2 x3 M ρ = some y → ao_W Γ uX0_isAsItIs (ao_rm d 0 0) (ao_Q Γ (ao_PI ρ y) 0 0) 0 0 14 [some (.ref (Γ.2.2.2 + r0)), some (.ref (Γ.2.2.2 + r1)), some (.int x2), some (.int x3)] [] (M, ρ)) ∧ (∀ (r0 : Nat) (r1 : Nat) (x2 : Int32) (x3 : Int32) (M : ao_M) (y : Int32 × ao_M), fX0_isAsItIs n 49 r0 r1 x2 x3 M ρ = some y → ao_W Γ uX0_isAsItIs (ao_rm d 0 0) (ao_Q Γ (ao_PI ρ y) 0 0) 0 0 49 [some (.ref (Γ.2.2.2 + r0)), some (.ref (Γ.2.2.2 + r1)), some (.int x2), some (.int x3)] [] (M, ρ)) := by
  intro n
  induction n with
  | zero => exact ⟨fun _ _ _ _ _ h => ao_no h, fun _ _ _ _ _ _ h => ao_no h, fun _ _ _ _ _ _ h => ao_no h⟩
  | succ n ih =>
    refine ⟨?_, ?_, ?_⟩
    · intro r0 r1 x2 M y h
      replace h := ao_ifT h rfl
      refine ao_iload_n 2 dX0_isAsItIs_0 rfl rfl ?_
      refine ao_if_lt 10 dX0_isAsItIs_1 (by decide) (fun c1 => ?_) (fun c1 => ?_)
      · replace h := ao_ifT h c1
        refine ao_iconst (v := 0) dX0_isAsItIs_10 (by decide) ?_
        cases h
        exact ao_ireturn dX0_isAsItIs_11 rfl rfl ⟨rfl, rfl⟩
      · replace h := ao_ifF h c1
        refine ao_iload_n 2 dX0_isAsItIs_4 rfl rfl ?_
        refine ao_bipush (v := 14) dX0_isAsItIs_5 (by decide) ?_
        refine ao_icmp_le 12 dX0_isAsItIs_7 (by decide) (fun c2 => ?_) (fun c2 => ?_)
        · replace h := ao_ifT h c2
          refine ao_iconst (v := 0) dX0_isAsItIs_12 (by decide) ?_
          refine ao_istore_n 3 (lo' := [some (.ref (Γ.2.2.2 + r0)), some (.ref (Γ.2.2.2 + r1)), some (.int x2), some (.int (0 : Int32))]) dX0_isAsItIs_13 rfl (Nat.le_of_ble_eq_true rfl) rfl ?_
          exact ih.2.1 r0 r1 x2 (0 : Int32) M _ h
        · replace h := ao_ifF h c2
          refine ao_iconst (v := 0) dX0_isAsItIs_10 (by decide) ?_
          cases h
          exact ao_ireturn dX0_isAsItIs_11 rfl rfl ⟨rfl, rfl⟩
    · intro r0 r1 x2 x3 M y h
      replace h := ao_ifF h (by decide)
      replace h := ao_ifT h rfl
      refine ao_iload_n 3 dX0_isAsItIs_14 rfl rfl ?_
      refine ao_bipush (v := 26) dX0_isAsItIs_15 (by decide) ?_
      refine ao_icmp_ge 55 dX0_isAsItIs_17 (by decide) (fun c3 => ?_) (fun c3 => ?_)
      · replace h := ao_ifT h c3
        refine ao_iconst (v := 1) dX0_isAsItIs_55 (by decide) ?_
        cases h
        exact ao_ireturn dX0_isAsItIs_56 rfl rfl ⟨rfl, rfl⟩
      · replace h := ao_ifF h c3
        refine ao_aload_n 1 dX0_isAsItIs_20 rfl rfl ?_
        obtain ⟨hk4, h⟩ := ao_some h
        obtain ⟨j5, hj5, h⟩ := ao_bind h
        refine an_getR r1 5 2 (q := (RX5, TX5, 11)) dX0_isAsItIs_21 rfl hk4 (Nat.le_of_ble_eq_true rfl) rfl lf_X0_70 hj5 ?_
        refine ao_iload_n 3 dX0_isAsItIs_24 rfl rfl ?_
        obtain ⟨hk6, h⟩ := ao_some h
        obtain ⟨hb7, h⟩ := ao_some h
        refine an_iaload j5 dX0_isAsItIs_25 hk6 hb7 ?_
        refine ao_iconst (v := (-1)) dX0_isAsItIs_26 (by decide) ?_
        refine ao_icmp_ne 49 dX0_isAsItIs_27 (by decide) (fun c8 => ?_) (fun c8 => ?_)
        · replace h := ao_ifF h c8
          exact ih.2.2 r0 r1 x2 x3 M _ h
        · replace h := ao_ifT h c8
          refine ao_aload_n 1 dX0_isAsItIs_30 rfl rfl ?_
          obtain ⟨j9, hj9, h⟩ := ao_bind h
          refine an_getR r1 5 0 (q := (RX5, TX5, 11)) dX0_isAsItIs_31 rfl hk4 (Nat.le_of_ble_eq_true rfl) rfl lf_X0_73 hj9 ?_
          refine ao_iload_n 3 dX0_isAsItIs_34 rfl rfl ?_
          obtain ⟨hk10, h⟩ := ao_some h
          obtain ⟨hb11, h⟩ := ao_some h
          refine an_iaload j9 dX0_isAsItIs_35 hk10 hb11 ?_
          refine ao_aload_n 0 dX0_isAsItIs_36 rfl rfl ?_
          obtain ⟨hk12, h⟩ := ao_some h
          obtain ⟨j13, hj13, h⟩ := ao_bind h
          refine an_getR r0 0 2 (q := (RX0, TX0, 5)) dX0_isAsItIs_37 rfl hk12 (Nat.le_of_ble_eq_true rfl) rfl lf_X0_17 hj13 ?_
          refine ao_iload_n 2 dX0_isAsItIs_40 rfl rfl ?_
          obtain ⟨hk14, h⟩ := ao_some h
          obtain ⟨hb15, h⟩ := ao_some h
          obtain ⟨j16, hj16, h⟩ := ao_bind h
          refine an_aaload j13 6 dX0_isAsItIs_41 hk14 (by decide) hb15 hj16 ?_
          refine ao_iload_n 3 dX0_isAsItIs_42 rfl rfl ?_
          obtain ⟨hk17, h⟩ := ao_some h
          obtain ⟨hb18, h⟩ := ao_some h
          refine an_iaload j16 dX0_isAsItIs_43 hk17 hb18 ?_
          refine ao_icmp_eq 49 dX0_isAsItIs_44 (by decide) (fun c19 => ?_) (fun c19 => ?_)
          · replace h := ao_ifT h c19
            exact ih.2.2 r0 r1 x2 x3 M _ h
          · replace h := ao_ifF h c19
            refine ao_iconst (v := 0) dX0_isAsItIs_47 (by decide) ?_
            cases h
            exact ao_ireturn dX0_isAsItIs_48 rfl rfl ⟨rfl, rfl⟩
    · intro r0 r1 x2 x3 M y h
      replace h := ao_ifF h (by decide)
      replace h := ao_ifF h (by decide)
      replace h := ao_ifT h rfl
      obtain ⟨v20, hv20⟩ : ∃ z : Int32, z = x3 + (1 : Int32) := ⟨_, rfl⟩
      replace h := ao_letD h hv20
      refine ao_iinc 3 (v := v20) (lo' := [some (.ref (Γ.2.2.2 + r0)), some (.ref (Γ.2.2.2 + r1)), some (.int x2), some (.int v20)]) dX0_isAsItIs_49 rfl (by rw [hv20]; rfl) (Nat.le_of_ble_eq_true rfl) rfl ?_
      refine ao_goto 14 dX0_isAsItIs_52 (by decide) ?_
      exact ih.2.1 r0 r1 x2 v20 M _ h
set_option maxRecDepth 100000 in
set_option maxHeartbeats 4000000 in
theorem aX0_isAsItIs {Γ : ao_C} (d : Nat) (hd : 0 ≤ d) (n : Nat) (r0 : Nat) (r1 : Nat) (x2 : Int32) (M : ao_M) (ρ : ao_H) {y : Int32 × ao_M} (h : gX0_isAsItIs n r0 r1 x2 M ρ = some y) : ao_A Γ uX0_isAsItIs d 0 0 [.ref (Γ.2.2.2 + r0), .ref (Γ.2.2.2 + r1), .int x2] (M, ρ) (ao_PI ρ y) := by
  refine ao_of (by decide) (ao_cat1 (Nat.le_of_ble_eq_true rfl)) (Nat.le_of_ble_eq_true rfl) ?_
  show ao_W Γ uX0_isAsItIs (ao_rm d 0 0) (ao_Q Γ (ao_PI ρ y) 0 0) 0 0 0 [some (.ref (Γ.2.2.2 + r0)), some (.ref (Γ.2.2.2 + r1)), some (.int x2), none] [] (M, ρ)
  exact (wX0_isAsItIs d hd n).1 r0 r1 x2 M y h

abbrev uX1_init : ao_Mi := (yX1_init, cX1_init, 2, none, [])
def fX1_init : Nat → Nat → Nat → Int32 → Nat → Int32 → Nat →  ao_M → ao_H → Option (ao_S)
  | 0, _, _, _, _, _, _, _, _ => none
  | n + 1, pc, r0, x1, q0, s0, q1, M, ρ =>
    if pc = 0 then
      if 0 ≤ x1 then
        fX1_init n 14 r0 x1 0 x1 r0 M ρ
      else
        fX1_init n 14 r0 x1 0 (0 : Int32) r0 M ρ
    else if pc = 14 then
      if ρ.2.1 q1 = 11 then
      ao_let (ao_u M q1 0 s0) fun M3 =>
      if ρ.2.1 r0 = 11 then
      (ρ.2.2.2.1).bind fun n5 =>
      if ¬ (M3 r0 0) < 0 ∧ (M3 r0 0).toNatClampNeg * 8 ≤ 536870912 then
      fX1_init n 24 r0 x1 n5 0 r0 (ao_zr M3 n5) (ao_nw ρ n5 0 (M3 r0 0).toNatClampNeg (M3 r0 0).toNatClampNeg)
      else none
      else none
      else none
    else if pc = 24 then
      if ρ.2.1 q1 = 11 then
      fX1_init n 27 r0 x1 0 0 0 M (ao_r ρ q1 1 (some q0))
      else none
    else if pc = 27 then
      if ρ.2.1 r0 = 11 then
      (ρ.2.2.2.1).bind fun n9 =>
      if ¬ (M r0 0) < 0 ∧ (M r0 0).toNatClampNeg * 8 ≤ 536870912 then
      fX1_init n 34 r0 x1 n9 0 r0 (ao_zr M n9) (ao_nw ρ n9 0 (M r0 0).toNatClampNeg (M r0 0).toNatClampNeg)
      else none
      else none
    else if pc = 34 then
      if ρ.2.1 q1 = 11 then
      fX1_init n 37 r0 x1 0 0 0 M (ao_r ρ q1 2 (some q0))
      else none
    else if pc = 37 then
      if ρ.2.1 r0 = 11 then
      (ρ.2.2.2.1).bind fun n13 =>
      if ¬ (M r0 0) < 0 ∧ (M r0 0).toNatClampNeg * 8 ≤ 536870912 then
      fX1_init n 44 r0 x1 n13 0 r0 (ao_zr M n13) (ao_nw ρ n13 0 (M r0 0).toNatClampNeg (M r0 0).toNatClampNeg)
      else none
      else none
    else if pc = 44 then
      if ρ.2.1 q1 = 11 then
      fX1_init n 47 r0 x1 0 0 0 M (ao_r ρ q1 3 (some q0))
      else none
    else if pc = 47 then
      if ρ.2.1 r0 = 11 then
      ao_let (ao_u M r0 4 (0 : Int32)) fun M17 =>
      ao_let (ao_u M17 r0 5 (0 : Int32)) fun M18 =>
      some (M18, ρ)
      else none
    else none
def gX1_init (n : Nat) (r0 : Nat) (x1 : Int32) (M : ao_M) (ρ : ao_H) : Option (ao_S) := fX1_init n 0 r0 x1 0 0 0 M ρ
set_option maxRecDepth 100000 in
set_option maxHeartbeats 4000000 in
theorem mX1_init : ∀ n : Nat, (∀ (r0 : Nat) (x1 : Int32) (M : ao_M) (ρ : ao_H) (y : ao_S), fX1_init n 0 r0 x1 0 0 0 M ρ = some y → ao_le ρ y.2) ∧ (∀ (r0 : Nat) (x1 : Int32) (s0 : Int32) (q1 : Nat) (M : ao_M) (ρ : ao_H) (y : ao_S), fX1_init n 14 r0 x1 0 s0 q1 M ρ = some y → ao_le ρ y.2) ∧ (∀ (r0 : Nat) (x1 : Int32) (q0 : Nat) (q1 : Nat) (M : ao_M) (ρ : ao_H) (y : ao_S), fX1_init n 24 r0 x1 q0 0 q1 M ρ = some y → ao_le ρ y.2) ∧ (∀ (r0 : Nat) (x1 : Int32) (M : ao_M) (ρ : ao_H) (y : ao_S), fX1_init n 27 r0 x1 0 0 0 M ρ = some y → ao_le ρ y.2) ∧ (∀ (r0 : Nat) (x1 : Int32) (q0 : Nat) (q1 : Nat) (M : ao_M) (ρ : ao_H) (y : ao_S), fX1_init n 34 r0 x1 q0 0 q1 M ρ = some y → ao_le ρ y.2) ∧ (∀ (r0 : Nat) (x1 : Int32) (M : ao_M) (ρ : ao_H) (y : ao_S), fX1_init n 37 r0 x1 0 0 0 M ρ = some y → ao_le ρ y.2) ∧ (∀ (r0 : Nat) (x1 : Int32) (q0 : Nat) (q1 : Nat) (M : ao_M) (ρ : ao_H) (y : ao_S), fX1_init n 44 r0 x1 q0 0 q1 M ρ = some y → ao_le ρ y.2) ∧ (∀ (r0 : Nat) (x1 : Int32) (M : ao_M) (ρ : ao_H) (y : ao_S), fX1_init n 47 r0 x1 0 0 0 M ρ = some y → ao_le ρ y.2) := by
  intro n
  induction n with
  | zero => exact ⟨fun _ _ _ _ _ h => ao_no h, fun _ _ _ _ _ _ _ h => ao_no h, fun _ _ _ _ _ _ _ h => ao_no h, fun _ _ _ _ _ h => ao_no h, fun _ _ _ _ _ _ _ h => ao_no h, fun _ _ _ _ _ h => ao_no h, fun _ _ _ _ _ _ _ h => ao_no h, fun _ _ _ _ _ h => ao_no h⟩
  | succ n ih =>
    refine ⟨?_, ?_, ?_, ?_, ?_, ?_, ?_, ?_⟩
    · intro r0 x1 M ρ y h
      replace h := ao_ifT h rfl
      rcases ao_ifC h with h | h
      · exact ih.2.1 r0 x1 x1 r0 M ρ _ h
      · exact ih.2.1 r0 x1 (0 : Int32) r0 M ρ _ h
    · intro r0 x1 s0 q1 M ρ y h
      replace h := ao_ifF h (by decide)
      replace h := ao_ifT h rfl
      obtain ⟨-, h⟩ := ao_some h
      replace h := ao_letD h rfl
      generalize (ao_u M q1 0 s0) = M3 at h
      obtain ⟨-, h⟩ := ao_some h
      obtain ⟨n5, hn5, h⟩ := ao_bind h
      obtain ⟨-, h⟩ := ao_some h
      exact ao_le_tr (ao_le_nw _ _ _ _ _) (ih.2.2.1 r0 x1 n5 r0 (ao_zr M3 n5) (ao_nw ρ n5 0 (M3 r0 0).toNatClampNeg (M3 r0 0).toNatClampNeg) _ h)
    · intro r0 x1 q0 q1 M ρ y h
      replace h := ao_ifF h (by decide)
      replace h := ao_ifF h (by decide)
      replace h := ao_ifT h rfl
      obtain ⟨-, h⟩ := ao_some h
      exact ao_le_tr (ao_le_r _ _ _ _) (ih.2.2.2.1 r0 x1 M (ao_r ρ q1 1 (some q0)) _ h)
    · intro r0 x1 M ρ y h
      replace h := ao_ifF h (by decide)
      replace h := ao_ifF h (by decide)
      replace h := ao_ifF h (by decide)
      replace h := ao_ifT h rfl
      obtain ⟨-, h⟩ := ao_some h
      obtain ⟨n9, hn9, h⟩ := ao_bind h
      obtain ⟨-, h⟩ := ao_some h
      exact ao_le_tr (ao_le_nw _ _ _ _ _) (ih.2.2.2.2.1 r0 x1 n9 r0 (ao_zr M n9) (ao_nw ρ n9 0 (M r0 0).toNatClampNeg (M r0 0).toNatClampNeg) _ h)
    · intro r0 x1 q0 q1 M ρ y h
      replace h := ao_ifF h (by decide)
      replace h := ao_ifF h (by decide)
      replace h := ao_ifF h (by decide)
      replace h := ao_ifF h (by decide)
      replace h := ao_ifT h rfl
      obtain ⟨-, h⟩ := ao_some h
      exact ao_le_tr (ao_le_r _ _ _ _) (ih.2.2.2.2.2.1 r0 x1 M (ao_r ρ q1 2 (some q0)) _ h)
    · intro r0 x1 M ρ y h
      replace h := ao_ifF h (by decide)
      replace h := ao_ifF h (by decide)
      replace h := ao_ifF h (by decide)
      replace h := ao_ifF h (by decide)
      replace h := ao_ifF h (by decide)
      replace h := ao_ifT h rfl
      obtain ⟨-, h⟩ := ao_some h
      obtain ⟨n13, hn13, h⟩ := ao_bind h
      obtain ⟨-, h⟩ := ao_some h
      exact ao_le_tr (ao_le_nw _ _ _ _ _) (ih.2.2.2.2.2.2.1 r0 x1 n13 r0 (ao_zr M n13) (ao_nw ρ n13 0 (M r0 0).toNatClampNeg (M r0 0).toNatClampNeg) _ h)
    · intro r0 x1 q0 q1 M ρ y h
      replace h := ao_ifF h (by decide)
      replace h := ao_ifF h (by decide)
      replace h := ao_ifF h (by decide)
      replace h := ao_ifF h (by decide)
      replace h := ao_ifF h (by decide)
      replace h := ao_ifF h (by decide)
      replace h := ao_ifT h rfl
      obtain ⟨-, h⟩ := ao_some h
      exact ao_le_tr (ao_le_r _ _ _ _) (ih.2.2.2.2.2.2.2 r0 x1 M (ao_r ρ q1 3 (some q0)) _ h)
    · intro r0 x1 M ρ y h
      replace h := ao_ifF h (by decide)
      replace h := ao_ifF h (by decide)
      replace h := ao_ifF h (by decide)
      replace h := ao_ifF h (by decide)
      replace h := ao_ifF h (by decide)
      replace h := ao_ifF h (by decide)
      replace h := ao_ifF h (by decide)
      replace h := ao_ifT h rfl
      obtain ⟨-, h⟩ := ao_some h
      replace h := ao_letD h rfl
      generalize (ao_u M r0 4 (0 : Int32)) = M17 at h
      replace h := ao_letD h rfl
      generalize (ao_u M17 r0 5 (0 : Int32)) = M18 at h
      cases h
      exact ao_le_rf _
set_option maxRecDepth 100000 in
set_option maxHeartbeats 4000000 in
theorem wX1_init {Γ : ao_C} (d : Nat) (hd : 1 ≤ d) (MC MS : Nat) : ∀ n : Nat, (∀ (r0 : Nat) (x1 : Int32) (M : ao_M) (ρ : ao_H) (y : ao_S), fX1_init n 0 r0 x1 0 0 0 M ρ = some y → ao_W Γ uX1_init (ao_rm d MC MS) (ao_Q Γ (ao_QV y) MC MS) (ao_dc ρ y.2) (ao_ds ρ y.2) 0 [some (.ref (Γ.2.2.2 + r0)), some (.int x1)] [] (M, ρ)) ∧ (∀ (r0 : Nat) (x1 : Int32) (s0 : Int32) (q1 : Nat) (M : ao_M) (ρ : ao_H) (y : ao_S), fX1_init n 14 r0 x1 0 s0 q1 M ρ = some y → ao_W Γ uX1_init (ao_rm d MC MS) (ao_Q Γ (ao_QV y) MC MS) (ao_dc ρ y.2) (ao_ds ρ y.2) 14 [some (.ref (Γ.2.2.2 + r0)), some (.int x1)] [.int s0, .ref (Γ.2.2.2 + q1)] (M, ρ)) ∧ (∀ (r0 : Nat) (x1 : Int32) (q0 : Nat) (q1 : Nat) (M : ao_M) (ρ : ao_H) (y : ao_S), fX1_init n 24 r0 x1 q0 0 q1 M ρ = some y → ao_W Γ uX1_init (ao_rm d MC MS) (ao_Q Γ (ao_QV y) MC MS) (ao_dc ρ y.2) (ao_ds ρ y.2) 24 [some (.ref (Γ.2.2.2 + r0)), some (.int x1)] [.ref (Γ.2.2.2 + q0), .ref (Γ.2.2.2 + q1)] (M, ρ)) ∧ (∀ (r0 : Nat) (x1 : Int32) (M : ao_M) (ρ : ao_H) (y : ao_S), fX1_init n 27 r0 x1 0 0 0 M ρ = some y → ao_W Γ uX1_init (ao_rm d MC MS) (ao_Q Γ (ao_QV y) MC MS) (ao_dc ρ y.2) (ao_ds ρ y.2) 27 [some (.ref (Γ.2.2.2 + r0)), some (.int x1)] [] (M, ρ)) ∧ (∀ (r0 : Nat) (x1 : Int32) (q0 : Nat) (q1 : Nat) (M : ao_M) (ρ : ao_H) (y : ao_S), fX1_init n 34 r0 x1 q0 0 q1 M ρ = some y → ao_W Γ uX1_init (ao_rm d MC MS) (ao_Q Γ (ao_QV y) MC MS) (ao_dc ρ y.2) (ao_ds ρ y.2) 34 [some (.ref (Γ.2.2.2 + r0)), some (.int x1)] [.ref (Γ.2.2.2 + q0), .ref (Γ.2.2.2 + q1)] (M, ρ)) ∧ (∀ (r0 : Nat) (x1 : Int32) (M : ao_M) (ρ : ao_H) (y : ao_S), fX1_init n 37 r0 x1 0 0 0 M ρ = some y → ao_W Γ uX1_init (ao_rm d MC MS) (ao_Q Γ (ao_QV y) MC MS) (ao_dc ρ y.2) (ao_ds ρ y.2) 37 [some (.ref (Γ.2.2.2 + r0)), some (.int x1)] [] (M, ρ)) ∧ (∀ (r0 : Nat) (x1 : Int32) (q0 : Nat) (q1 : Nat) (M : ao_M) (ρ : ao_H) (y : ao_S), fX1_init n 44 r0 x1 q0 0 q1 M ρ = some y → ao_W Γ uX1_init (ao_rm d MC MS) (ao_Q Γ (ao_QV y) MC MS) (ao_dc ρ y.2) (ao_ds ρ y.2) 44 [some (.ref (Γ.2.2.2 + r0)), some (.int x1)] [.ref (Γ.2.2.2 + q0), .ref (Γ.2.2.2 + q1)] (M, ρ)) ∧ (∀ (r0 : Nat) (x1 : Int32) (M : ao_M) (ρ : ao_H) (y : ao_S), fX1_init n 47 r0 x1 0 0 0 M ρ = some y → ao_W Γ uX1_init (ao_rm d MC MS) (ao_Q Γ (ao_QV y) MC MS) (ao_dc ρ y.2) (ao_ds ρ y.2) 47 [some (.ref (Γ.2.2.2 + r0)), some (.int x1)] [] (M, ρ)) := by
  intro n
  induction n with
  | zero => exact ⟨fun _ _ _ _ _ h => ao_no h, fun _ _ _ _ _ _ _ h => ao_no h, fun _ _ _ _ _ _ _ h => ao_no h, fun _ _ _ _ _ h => ao_no h, fun _ _ _ _ _ _ _ h => ao_no h, fun _ _ _ _ _ h => ao_no h, fun _ _ _ _ _ _ _ h => ao_no h, fun _ _ _ _ _ h => ao_no h⟩
  | succ n ih =>
    refine ⟨?_, ?_, ?_, ?_, ?_, ?_, ?_, ?_⟩
    · intro r0 x1 M ρ y h
      replace h := ao_ifT h rfl
      refine ao_aload_n 0 dX1_init_0 rfl rfl ?_
      refine bi_obj dX1_init_1 loi_X1_1 (Nat.le_of_ble_eq_true rfl) (ao_cpR (by omega)) ?_
      refine ao_aload_n 0 dX1_init_4 rfl rfl ?_
      refine ao_iload_n 1 dX1_init_5 rfl rfl ?_
      refine ao_if_ge 13 dX1_init_6 (by decide) (fun c1 => ?_) (fun c1 => ?_)
      · replace h := ao_ifT h c1
        refine ao_iload_n 1 dX1_init_13 rfl rfl ?_
        exact ih.2.1 r0 x1 x1 r0 M ρ _ h
      · replace h := ao_ifF h c1
        refine ao_iconst (v := 0) dX1_init_9 (by decide) ?_
        refine ao_goto 14 dX1_init_10 (by decide) ?_
        exact ih.2.1 r0 x1 (0 : Int32) r0 M ρ _ h
    · intro r0 x1 s0 q1 M ρ y h
      replace h := ao_ifF h (by decide)
      replace h := ao_ifT h rfl
      obtain ⟨hk2, h⟩ := ao_some h
      refine ba_putIF q1 1 0 (q := (RX1, TX1, 6)) dX1_init_14 rfl hk2 (Nat.le_of_ble_eq_true rfl) lf_X1_7 (Or.inr ⟨rfl, rfl⟩) rfl rfl rfl (fun M3 hM3 => ?_)
      replace h := ao_letD h hM3
      refine ao_aload_n 0 dX1_init_17 rfl rfl ?_
      refine ao_aload_n 0 dX1_init_18 rfl rfl ?_
      obtain ⟨hk4, h⟩ := ao_some h
      refine an_getI r0 1 0 (q := (RX1, TX1, 6)) dX1_init_19 rfl hk4 (Nat.le_of_ble_eq_true rfl) rfl lf_X1_7 ?_
      obtain ⟨n5, hn5, h⟩ := ao_bind h
      obtain ⟨hb6, h⟩ := ao_some h
      refine ba_newa n5 0 dX1_init_22 rfl (by decide) hn5 lna_0 hb6.1 hb6.2 (ao_dc_nw ((mX1_init n).2.2.1 r0 x1 n5 r0 (ao_zr M3 n5) (ao_nw ρ n5 0 (M3 r0 0).toNatClampNeg (M3 r0 0).toNatClampNeg) _ h)) ?_
      exact ih.2.2.1 r0 x1 n5 r0 (ao_zr M3 n5) (ao_nw ρ n5 0 (M3 r0 0).toNatClampNeg (M3 r0 0).toNatClampNeg) _ h
    · intro r0 x1 q0 q1 M ρ y h
      replace h := ao_ifF h (by decide)
      replace h := ao_ifF h (by decide)
      replace h := ao_ifT h rfl
      obtain ⟨hk7, h⟩ := ao_some h
      refine ba_putR q1 1 1 (q := (RX1, TX1, 6)) dX1_init_24 rfl hk7 (Nat.le_of_ble_eq_true rfl) lf_X1_13 (Or.inr ⟨rfl, rfl⟩) rfl rfl rfl ?_
      exact ih.2.2.2.1 r0 x1 M (ao_r ρ q1 1 (some q0)) _ h
    · intro r0 x1 M ρ y h
      replace h := ao_ifF h (by decide)
      replace h := ao_ifF h (by decide)
      replace h := ao_ifF h (by decide)
      replace h := ao_ifT h rfl
      refine ao_aload_n 0 dX1_init_27 rfl rfl ?_
      refine ao_aload_n 0 dX1_init_28 rfl rfl ?_
      obtain ⟨hk8, h⟩ := ao_some h
      refine an_getI r0 1 0 (q := (RX1, TX1, 6)) dX1_init_29 rfl hk8 (Nat.le_of_ble_eq_true rfl) rfl lf_X1_7 ?_
      obtain ⟨n9, hn9, h⟩ := ao_bind h
      obtain ⟨hb10, h⟩ := ao_some h
      refine ba_newa n9 0 dX1_init_32 rfl (by decide) hn9 lna_0 hb10.1 hb10.2 (ao_dc_nw ((mX1_init n).2.2.2.2.1 r0 x1 n9 r0 (ao_zr M n9) (ao_nw ρ n9 0 (M r0 0).toNatClampNeg (M r0 0).toNatClampNeg) _ h)) ?_
      exact ih.2.2.2.2.1 r0 x1 n9 r0 (ao_zr M n9) (ao_nw ρ n9 0 (M r0 0).toNatClampNeg (M r0 0).toNatClampNeg) _ h
    · intro r0 x1 q0 q1 M ρ y h
      replace h := ao_ifF h (by decide)
      replace h := ao_ifF h (by decide)
      replace h := ao_ifF h (by decide)
      replace h := ao_ifF h (by decide)
      replace h := ao_ifT h rfl
      obtain ⟨hk11, h⟩ := ao_some h
      refine ba_putR q1 1 2 (q := (RX1, TX1, 6)) dX1_init_34 rfl hk11 (Nat.le_of_ble_eq_true rfl) lf_X1_17 (Or.inr ⟨rfl, rfl⟩) rfl rfl rfl ?_
      exact ih.2.2.2.2.2.1 r0 x1 M (ao_r ρ q1 2 (some q0)) _ h
    · intro r0 x1 M ρ y h
      replace h := ao_ifF h (by decide)
      replace h := ao_ifF h (by decide)
      replace h := ao_ifF h (by decide)
      replace h := ao_ifF h (by decide)
      replace h := ao_ifF h (by decide)
      replace h := ao_ifT h rfl
      refine ao_aload_n 0 dX1_init_37 rfl rfl ?_
      refine ao_aload_n 0 dX1_init_38 rfl rfl ?_
      obtain ⟨hk12, h⟩ := ao_some h
      refine an_getI r0 1 0 (q := (RX1, TX1, 6)) dX1_init_39 rfl hk12 (Nat.le_of_ble_eq_true rfl) rfl lf_X1_7 ?_
      obtain ⟨n13, hn13, h⟩ := ao_bind h
      obtain ⟨hb14, h⟩ := ao_some h
      refine ba_newa n13 0 dX1_init_42 rfl (by decide) hn13 lna_0 hb14.1 hb14.2 (ao_dc_nw ((mX1_init n).2.2.2.2.2.2.1 r0 x1 n13 r0 (ao_zr M n13) (ao_nw ρ n13 0 (M r0 0).toNatClampNeg (M r0 0).toNatClampNeg) _ h)) ?_
      exact ih.2.2.2.2.2.2.1 r0 x1 n13 r0 (ao_zr M n13) (ao_nw ρ n13 0 (M r0 0).toNatClampNeg (M r0 0).toNatClampNeg) _ h
    · intro r0 x1 q0 q1 M ρ y h
      replace h := ao_ifF h (by decide)
      replace h := ao_ifF h (by decide)
      replace h := ao_ifF h (by decide)
      replace h := ao_ifF h (by decide)
      replace h := ao_ifF h (by decide)
      replace h := ao_ifF h (by decide)
      replace h := ao_ifT h rfl
      obtain ⟨hk15, h⟩ := ao_some h
      refine ba_putR q1 1 3 (q := (RX1, TX1, 6)) dX1_init_44 rfl hk15 (Nat.le_of_ble_eq_true rfl) lf_X1_20 (Or.inr ⟨rfl, rfl⟩) rfl rfl rfl ?_
      exact ih.2.2.2.2.2.2.2 r0 x1 M (ao_r ρ q1 3 (some q0)) _ h
    · intro r0 x1 M ρ y h
      replace h := ao_ifF h (by decide)
      replace h := ao_ifF h (by decide)
      replace h := ao_ifF h (by decide)
      replace h := ao_ifF h (by decide)
      replace h := ao_ifF h (by decide)
      replace h := ao_ifF h (by decide)
      replace h := ao_ifF h (by decide)
      replace h := ao_ifT h rfl
      refine ao_aload_n 0 dX1_init_47 rfl rfl ?_
      refine ao_iconst (v := 0) dX1_init_48 (by decide) ?_
      obtain ⟨hk16, h⟩ := ao_some h
      refine an_putI r0 1 4 (q := (RX1, TX1, 6)) dX1_init_49 rfl hk16 (Nat.le_of_ble_eq_true rfl) lf_X1_23 rfl rfl rfl rfl (fun M17 hM17 => ?_)
      replace h := ao_letD h hM17
      refine ao_aload_n 0 dX1_init_52 rfl rfl ?_
      refine ao_iconst (v := 0) dX1_init_53 (by decide) ?_
      refine an_putI r0 1 5 (q := (RX1, TX1, 6)) dX1_init_54 rfl hk16 (Nat.le_of_ble_eq_true rfl) lf_X1_26 rfl rfl rfl rfl (fun M18 hM18 => ?_)
      replace h := ao_letD h hM18
      cases h
      exact ao_return dX1_init_57 rfl ⟨rfl, rfl⟩
theorem me_X1_init (n : Nat) (r0 : Nat) (x1 : Int32) (M : ao_M) (ρ : ao_H) {y : ao_S} (h : gX1_init n r0 x1 M ρ = some y) : ao_le ρ y.2 := (mX1_init n).1 r0 x1 M ρ y h
set_option maxRecDepth 100000 in
set_option maxHeartbeats 4000000 in
theorem aX1_init {Γ : ao_C} (d : Nat) (hd : 1 ≤ d) (n : Nat) (r0 : Nat) (x1 : Int32) (M : ao_M) (ρ : ao_H) {y : ao_S} (h : gX1_init n r0 x1 M ρ = some y) : ao_A Γ uX1_init d (ao_dc ρ y.2) (ao_ds ρ y.2) [.ref (Γ.2.2.2 + r0), .int x1] (M, ρ) (ao_QV y) := by
  refine ao_of (by decide) (ao_cat1 (Nat.le_of_ble_eq_true rfl)) (Nat.le_of_ble_eq_true rfl) ?_
  show ao_W Γ uX1_init (ao_rm d (ao_dc ρ y.2) (ao_ds ρ y.2)) (ao_Q Γ (ao_QV y) (ao_dc ρ y.2) (ao_ds ρ y.2)) (ao_dc ρ y.2) (ao_ds ρ y.2) 0 [some (.ref (Γ.2.2.2 + r0)), some (.int x1)] [] (M, ρ)
  exact (wX1_init d hd _ _ n).1 r0 x1 M ρ y h

abbrev uX1_clear : ao_Mi := (yX1_clear, cX1_clear, 1, none, [])
def gX1_clear (r0 : Nat) (M : ao_M) (ρ : ao_H) : Option (ao_M) :=
  if ρ.2.1 r0 = 11 then
  ao_let (ao_u M r0 4 (0 : Int32)) fun M2 =>
  ao_let (ao_u M2 r0 5 (0 : Int32)) fun M3 =>
  some M3
  else none
set_option maxRecDepth 100000 in
set_option maxHeartbeats 4000000 in
theorem aX1_clear {Γ : ao_C} (d : Nat) (hd : 0 ≤ d) (r0 : Nat) (M : ao_M) (ρ : ao_H) {y : ao_M} (h : gX1_clear r0 M ρ = some y) : ao_A Γ uX1_clear d 0 0 [.ref (Γ.2.2.2 + r0)] (M, ρ) (ao_PV ρ y) := by
  refine ao_of (by decide) (ao_cat1 (Nat.le_of_ble_eq_true rfl)) (Nat.le_of_ble_eq_true rfl) ?_
  show ao_W Γ uX1_clear (ao_rm d 0 0) (ao_Q Γ (ao_PV ρ y) 0 0) 0 0 0 [some (.ref (Γ.2.2.2 + r0))] [] (M, ρ)
  unfold gX1_clear at h
  refine ao_aload_n 0 dX1_clear_0 rfl rfl ?_
  refine ao_iconst (v := 0) dX1_clear_1 (by decide) ?_
  obtain ⟨hk1, h⟩ := ao_some h
  refine an_putI r0 1 4 (q := (RX1, TX1, 6)) dX1_clear_2 rfl hk1 (Nat.le_of_ble_eq_true rfl) lf_X1_23 rfl rfl rfl rfl (fun M2 hM2 => ?_)
  replace h := ao_letD h hM2
  refine ao_aload_n 0 dX1_clear_5 rfl rfl ?_
  refine ao_iconst (v := 0) dX1_clear_6 (by decide) ?_
  refine an_putI r0 1 5 (q := (RX1, TX1, 6)) dX1_clear_7 rfl hk1 (Nat.le_of_ble_eq_true rfl) lf_X1_26 rfl rfl rfl rfl (fun M3 hM3 => ?_)
  replace h := ao_letD h hM3
  cases h
  exact ao_return dX1_clear_10 rfl ⟨rfl, rfl⟩

abbrev uX1_add : ao_Mi := (yX1_add, cX1_add, 4, (some .int), [])
def gX1_add (r0 : Nat) (x1 : Int32) (x2 : Int32) (M : ao_M) (ρ : ao_H) : Option (Int32 × ao_M) :=
  if ρ.2.1 r0 = 11 then
  ao_let (M r0 4) fun v2 =>
  if v2 < 0 then
    some (v2, M)
  else
    if (M r0 0) ≤ v2 then
      some (v2, M)
    else
      (ρ.1 r0 1).bind fun j5 =>
      if ρ.2.1 j5 = 0 then
      if ¬ (v2 < 0 ∨ ρ.2.2.1 j5 ≤ v2.toNatClampNeg) then
      ao_let (ao_u M j5 v2.toNatClampNeg x1) fun M8 =>
      (ρ.1 r0 2).bind fun j9 =>
      if ρ.2.1 j9 = 0 then
      if ¬ (v2 < 0 ∨ ρ.2.2.1 j9 ≤ v2.toNatClampNeg) then
      ao_let (ao_u M8 j9 v2.toNatClampNeg x2) fun M12 =>
      (ρ.1 r0 3).bind fun j13 =>
      if ρ.2.1 j13 = 0 then
      if ¬ (v2 < 0 ∨ ρ.2.2.1 j13 ≤ v2.toNatClampNeg) then
      ao_let (ao_u M12 j13 v2.toNatClampNeg (0 : Int32)) fun M16 =>
      ao_let (ao_u M16 r0 4 (v2 + (1 : Int32))) fun M17 =>
      some (v2, M17)
      else none
      else none
      else none
      else none
      else none
      else none
  else none
set_option maxRecDepth 100000 in
set_option maxHeartbeats 4000000 in
theorem aX1_add {Γ : ao_C} (d : Nat) (hd : 0 ≤ d) (r0 : Nat) (x1 : Int32) (x2 : Int32) (M : ao_M) (ρ : ao_H) {y : Int32 × ao_M} (h : gX1_add r0 x1 x2 M ρ = some y) : ao_A Γ uX1_add d 0 0 [.ref (Γ.2.2.2 + r0), .int x1, .int x2] (M, ρ) (ao_PI ρ y) := by
  refine ao_of (by decide) (ao_cat1 (Nat.le_of_ble_eq_true rfl)) (Nat.le_of_ble_eq_true rfl) ?_
  show ao_W Γ uX1_add (ao_rm d 0 0) (ao_Q Γ (ao_PI ρ y) 0 0) 0 0 0 [some (.ref (Γ.2.2.2 + r0)), some (.int x1), some (.int x2), none] [] (M, ρ)
  unfold gX1_add at h
  refine ao_aload_n 0 dX1_add_0 rfl rfl ?_
  obtain ⟨hk1, h⟩ := ao_some h
  refine an_getI r0 1 4 (q := (RX1, TX1, 6)) dX1_add_1 rfl hk1 (Nat.le_of_ble_eq_true rfl) rfl lf_X1_23 ?_
  refine an_topi (fun v2 hv2 => ?_)
  replace h := ao_letD h hv2
  refine ao_istore_n 3 (lo' := [some (.ref (Γ.2.2.2 + r0)), some (.int x1), some (.int x2), some (.int v2)]) dX1_add_4 rfl (Nat.le_of_ble_eq_true rfl) rfl ?_
  refine ao_iload_n 3 dX1_add_5 rfl rfl ?_
  refine ao_if_lt 45 dX1_add_6 (by decide) (fun c3 => ?_) (fun c3 => ?_)
  · replace h := ao_ifT h c3
    refine ao_iload_n 3 dX1_add_45 rfl rfl ?_
    cases h
    exact ao_ireturn dX1_add_46 rfl rfl ⟨rfl, rfl⟩
  · replace h := ao_ifF h c3
    refine ao_iload_n 3 dX1_add_9 rfl rfl ?_
    refine ao_aload_n 0 dX1_add_10 rfl rfl ?_
    refine an_getI r0 1 0 (q := (RX1, TX1, 6)) dX1_add_11 rfl hk1 (Nat.le_of_ble_eq_true rfl) rfl lf_X1_7 ?_
    refine ao_icmp_ge 45 dX1_add_14 (by decide) (fun c4 => ?_) (fun c4 => ?_)
    · replace h := ao_ifT h c4
      refine ao_iload_n 3 dX1_add_45 rfl rfl ?_
      cases h
      exact ao_ireturn dX1_add_46 rfl rfl ⟨rfl, rfl⟩
    · replace h := ao_ifF h c4
      refine ao_aload_n 0 dX1_add_17 rfl rfl ?_
      obtain ⟨j5, hj5, h⟩ := ao_bind h
      refine an_getR r0 1 1 (q := (RX1, TX1, 6)) dX1_add_18 rfl hk1 (Nat.le_of_ble_eq_true rfl) rfl lf_X1_13 hj5 ?_
      refine ao_iload_n 3 dX1_add_21 rfl rfl ?_
      refine ao_iload_n 1 dX1_add_22 rfl rfl ?_
      obtain ⟨hk6, h⟩ := ao_some h
      obtain ⟨hb7, h⟩ := ao_some h
      refine an_iastore j5 dX1_add_23 hk6 hb7 (fun M8 hM8 => ?_)
      replace h := ao_letD h hM8
      refine ao_aload_n 0 dX1_add_24 rfl rfl ?_
      obtain ⟨j9, hj9, h⟩ := ao_bind h
      refine an_getR r0 1 2 (q := (RX1, TX1, 6)) dX1_add_25 rfl hk1 (Nat.le_of_ble_eq_true rfl) rfl lf_X1_17 hj9 ?_
      refine ao_iload_n 3 dX1_add_28 rfl rfl ?_
      refine ao_iload_n 2 dX1_add_29 rfl rfl ?_
      obtain ⟨hk10, h⟩ := ao_some h
      obtain ⟨hb11, h⟩ := ao_some h
      refine an_iastore j9 dX1_add_30 hk10 hb11 (fun M12 hM12 => ?_)
      replace h := ao_letD h hM12
      refine ao_aload_n 0 dX1_add_31 rfl rfl ?_
      obtain ⟨j13, hj13, h⟩ := ao_bind h
      refine an_getR r0 1 3 (q := (RX1, TX1, 6)) dX1_add_32 rfl hk1 (Nat.le_of_ble_eq_true rfl) rfl lf_X1_20 hj13 ?_
      refine ao_iload_n 3 dX1_add_35 rfl rfl ?_
      refine ao_iconst (v := 0) dX1_add_36 (by decide) ?_
      obtain ⟨hk14, h⟩ := ao_some h
      obtain ⟨hb15, h⟩ := ao_some h
      refine an_iastore j13 dX1_add_37 hk14 hb15 (fun M16 hM16 => ?_)
      replace h := ao_letD h hM16
      refine ao_aload_n 0 dX1_add_38 rfl rfl ?_
      refine ao_iload_n 3 dX1_add_39 rfl rfl ?_
      refine ao_iconst (v := 1) dX1_add_40 (by decide) ?_
      refine ao_iadd dX1_add_41 ?_
      refine an_putI r0 1 4 (q := (RX1, TX1, 6)) dX1_add_42 rfl hk1 (Nat.le_of_ble_eq_true rfl) lf_X1_23 rfl rfl rfl rfl (fun M17 hM17 => ?_)
      replace h := ao_letD h hM17
      refine ao_iload_n 3 dX1_add_45 rfl rfl ?_
      cases h
      exact ao_ireturn dX1_add_46 rfl rfl ⟨rfl, rfl⟩

abbrev uX1_setOp : ao_Mi := (yX1_setOp, cX1_setOp, 3, none, [])
def gX1_setOp (r0 : Nat) (x1 : Int32) (x2 : Int32) (M : ao_M) (ρ : ao_H) : Option (ao_M) :=
  if x1 < 0 then
    some M
  else
    if ρ.2.1 r0 = 11 then
    if (M r0 0) ≤ x1 then
      some M
    else
      (ρ.1 r0 1).bind fun j4 =>
      if ρ.2.1 j4 = 0 then
      if ¬ (x1 < 0 ∨ ρ.2.2.1 j4 ≤ x1.toNatClampNeg) then
      ao_let (ao_u M j4 x1.toNatClampNeg x2) fun M7 =>
      some M7
      else none
      else none
    else none
set_option maxRecDepth 100000 in
set_option maxHeartbeats 4000000 in
theorem aX1_setOp {Γ : ao_C} (d : Nat) (hd : 0 ≤ d) (r0 : Nat) (x1 : Int32) (x2 : Int32) (M : ao_M) (ρ : ao_H) {y : ao_M} (h : gX1_setOp r0 x1 x2 M ρ = some y) : ao_A Γ uX1_setOp d 0 0 [.ref (Γ.2.2.2 + r0), .int x1, .int x2] (M, ρ) (ao_PV ρ y) := by
  refine ao_of (by decide) (ao_cat1 (Nat.le_of_ble_eq_true rfl)) (Nat.le_of_ble_eq_true rfl) ?_
  show ao_W Γ uX1_setOp (ao_rm d 0 0) (ao_Q Γ (ao_PV ρ y) 0 0) 0 0 0 [some (.ref (Γ.2.2.2 + r0)), some (.int x1), some (.int x2)] [] (M, ρ)
  unfold gX1_setOp at h
  refine ao_iload_n 1 dX1_setOp_0 rfl rfl ?_
  refine ao_if_lt 19 dX1_setOp_1 (by decide) (fun c1 => ?_) (fun c1 => ?_)
  · replace h := ao_ifT h c1
    cases h
    exact ao_return dX1_setOp_19 rfl ⟨rfl, rfl⟩
  · replace h := ao_ifF h c1
    refine ao_iload_n 1 dX1_setOp_4 rfl rfl ?_
    refine ao_aload_n 0 dX1_setOp_5 rfl rfl ?_
    obtain ⟨hk2, h⟩ := ao_some h
    refine an_getI r0 1 0 (q := (RX1, TX1, 6)) dX1_setOp_6 rfl hk2 (Nat.le_of_ble_eq_true rfl) rfl lf_X1_7 ?_
    refine ao_icmp_ge 19 dX1_setOp_9 (by decide) (fun c3 => ?_) (fun c3 => ?_)
    · replace h := ao_ifT h c3
      cases h
      exact ao_return dX1_setOp_19 rfl ⟨rfl, rfl⟩
    · replace h := ao_ifF h c3
      refine ao_aload_n 0 dX1_setOp_12 rfl rfl ?_
      obtain ⟨j4, hj4, h⟩ := ao_bind h
      refine an_getR r0 1 1 (q := (RX1, TX1, 6)) dX1_setOp_13 rfl hk2 (Nat.le_of_ble_eq_true rfl) rfl lf_X1_13 hj4 ?_
      refine ao_iload_n 1 dX1_setOp_16 rfl rfl ?_
      refine ao_iload_n 2 dX1_setOp_17 rfl rfl ?_
      obtain ⟨hk5, h⟩ := ao_some h
      obtain ⟨hb6, h⟩ := ao_some h
      refine an_iastore j4 dX1_setOp_18 hk5 hb6 (fun M7 hM7 => ?_)
      replace h := ao_letD h hM7
      cases h
      exact ao_return dX1_setOp_19 rfl ⟨rfl, rfl⟩

abbrev uX1_setFirst : ao_Mi := (yX1_setFirst, cX1_setFirst, 3, none, [])
def gX1_setFirst (r0 : Nat) (x1 : Int32) (x2 : Int32) (M : ao_M) (ρ : ao_H) : Option (ao_M) :=
  if x1 < 0 then
    some M
  else
    if ρ.2.1 r0 = 11 then
    if (M r0 0) ≤ x1 then
      some M
    else
      (ρ.1 r0 2).bind fun j4 =>
      if ρ.2.1 j4 = 0 then
      if ¬ (x1 < 0 ∨ ρ.2.2.1 j4 ≤ x1.toNatClampNeg) then
      ao_let (ao_u M j4 x1.toNatClampNeg x2) fun M7 =>
      some M7
      else none
      else none
    else none
set_option maxRecDepth 100000 in
set_option maxHeartbeats 4000000 in
theorem aX1_setFirst {Γ : ao_C} (d : Nat) (hd : 0 ≤ d) (r0 : Nat) (x1 : Int32) (x2 : Int32) (M : ao_M) (ρ : ao_H) {y : ao_M} (h : gX1_setFirst r0 x1 x2 M ρ = some y) : ao_A Γ uX1_setFirst d 0 0 [.ref (Γ.2.2.2 + r0), .int x1, .int x2] (M, ρ) (ao_PV ρ y) := by
  refine ao_of (by decide) (ao_cat1 (Nat.le_of_ble_eq_true rfl)) (Nat.le_of_ble_eq_true rfl) ?_
  show ao_W Γ uX1_setFirst (ao_rm d 0 0) (ao_Q Γ (ao_PV ρ y) 0 0) 0 0 0 [some (.ref (Γ.2.2.2 + r0)), some (.int x1), some (.int x2)] [] (M, ρ)
  unfold gX1_setFirst at h
  refine ao_iload_n 1 dX1_setFirst_0 rfl rfl ?_
  refine ao_if_lt 19 dX1_setFirst_1 (by decide) (fun c1 => ?_) (fun c1 => ?_)
  · replace h := ao_ifT h c1
    cases h
    exact ao_return dX1_setFirst_19 rfl ⟨rfl, rfl⟩
  · replace h := ao_ifF h c1
    refine ao_iload_n 1 dX1_setFirst_4 rfl rfl ?_
    refine ao_aload_n 0 dX1_setFirst_5 rfl rfl ?_
    obtain ⟨hk2, h⟩ := ao_some h
    refine an_getI r0 1 0 (q := (RX1, TX1, 6)) dX1_setFirst_6 rfl hk2 (Nat.le_of_ble_eq_true rfl) rfl lf_X1_7 ?_
    refine ao_icmp_ge 19 dX1_setFirst_9 (by decide) (fun c3 => ?_) (fun c3 => ?_)
    · replace h := ao_ifT h c3
      cases h
      exact ao_return dX1_setFirst_19 rfl ⟨rfl, rfl⟩
    · replace h := ao_ifF h c3
      refine ao_aload_n 0 dX1_setFirst_12 rfl rfl ?_
      obtain ⟨j4, hj4, h⟩ := ao_bind h
      refine an_getR r0 1 2 (q := (RX1, TX1, 6)) dX1_setFirst_13 rfl hk2 (Nat.le_of_ble_eq_true rfl) rfl lf_X1_17 hj4 ?_
      refine ao_iload_n 1 dX1_setFirst_16 rfl rfl ?_
      refine ao_iload_n 2 dX1_setFirst_17 rfl rfl ?_
      obtain ⟨hk5, h⟩ := ao_some h
      obtain ⟨hb6, h⟩ := ao_some h
      refine an_iastore j4 dX1_setFirst_18 hk5 hb6 (fun M7 hM7 => ?_)
      replace h := ao_letD h hM7
      cases h
      exact ao_return dX1_setFirst_19 rfl ⟨rfl, rfl⟩

abbrev uX1_setSecond : ao_Mi := (yX1_setSecond, cX1_setSecond, 3, none, [])
def gX1_setSecond (r0 : Nat) (x1 : Int32) (x2 : Int32) (M : ao_M) (ρ : ao_H) : Option (ao_M) :=
  if x1 < 0 then
    some M
  else
    if ρ.2.1 r0 = 11 then
    if (M r0 0) ≤ x1 then
      some M
    else
      (ρ.1 r0 3).bind fun j4 =>
      if ρ.2.1 j4 = 0 then
      if ¬ (x1 < 0 ∨ ρ.2.2.1 j4 ≤ x1.toNatClampNeg) then
      ao_let (ao_u M j4 x1.toNatClampNeg x2) fun M7 =>
      some M7
      else none
      else none
    else none
set_option maxRecDepth 100000 in
set_option maxHeartbeats 4000000 in
theorem aX1_setSecond {Γ : ao_C} (d : Nat) (hd : 0 ≤ d) (r0 : Nat) (x1 : Int32) (x2 : Int32) (M : ao_M) (ρ : ao_H) {y : ao_M} (h : gX1_setSecond r0 x1 x2 M ρ = some y) : ao_A Γ uX1_setSecond d 0 0 [.ref (Γ.2.2.2 + r0), .int x1, .int x2] (M, ρ) (ao_PV ρ y) := by
  refine ao_of (by decide) (ao_cat1 (Nat.le_of_ble_eq_true rfl)) (Nat.le_of_ble_eq_true rfl) ?_
  show ao_W Γ uX1_setSecond (ao_rm d 0 0) (ao_Q Γ (ao_PV ρ y) 0 0) 0 0 0 [some (.ref (Γ.2.2.2 + r0)), some (.int x1), some (.int x2)] [] (M, ρ)
  unfold gX1_setSecond at h
  refine ao_iload_n 1 dX1_setSecond_0 rfl rfl ?_
  refine ao_if_lt 19 dX1_setSecond_1 (by decide) (fun c1 => ?_) (fun c1 => ?_)
  · replace h := ao_ifT h c1
    cases h
    exact ao_return dX1_setSecond_19 rfl ⟨rfl, rfl⟩
  · replace h := ao_ifF h c1
    refine ao_iload_n 1 dX1_setSecond_4 rfl rfl ?_
    refine ao_aload_n 0 dX1_setSecond_5 rfl rfl ?_
    obtain ⟨hk2, h⟩ := ao_some h
    refine an_getI r0 1 0 (q := (RX1, TX1, 6)) dX1_setSecond_6 rfl hk2 (Nat.le_of_ble_eq_true rfl) rfl lf_X1_7 ?_
    refine ao_icmp_ge 19 dX1_setSecond_9 (by decide) (fun c3 => ?_) (fun c3 => ?_)
    · replace h := ao_ifT h c3
      cases h
      exact ao_return dX1_setSecond_19 rfl ⟨rfl, rfl⟩
    · replace h := ao_ifF h c3
      refine ao_aload_n 0 dX1_setSecond_12 rfl rfl ?_
      obtain ⟨j4, hj4, h⟩ := ao_bind h
      refine an_getR r0 1 3 (q := (RX1, TX1, 6)) dX1_setSecond_13 rfl hk2 (Nat.le_of_ble_eq_true rfl) rfl lf_X1_20 hj4 ?_
      refine ao_iload_n 1 dX1_setSecond_16 rfl rfl ?_
      refine ao_iload_n 2 dX1_setSecond_17 rfl rfl ?_
      obtain ⟨hk5, h⟩ := ao_some h
      obtain ⟨hb6, h⟩ := ao_some h
      refine an_iastore j4 dX1_setSecond_18 hk5 hb6 (fun M7 hM7 => ?_)
      replace h := ao_letD h hM7
      cases h
      exact ao_return dX1_setSecond_19 rfl ⟨rfl, rfl⟩

abbrev uX1_firstAt : ao_Mi := (yX1_firstAt, cX1_firstAt, 2, (some .int), [])
def gX1_firstAt (r0 : Nat) (x1 : Int32) (M : ao_M) (ρ : ao_H) : Option (Int32 × ao_M) :=
  if x1 < 0 then
    some ((-1 : Int32), M)
  else
    if ρ.2.1 r0 = 11 then
    if (M r0 0) ≤ x1 then
      some ((-1 : Int32), M)
    else
      (ρ.1 r0 2).bind fun j4 =>
      if ρ.2.1 j4 = 0 then
      if ¬ (x1 < 0 ∨ ρ.2.2.1 j4 ≤ x1.toNatClampNeg) then
      some ((M j4 x1.toNatClampNeg), M)
      else none
      else none
    else none
set_option maxRecDepth 100000 in
set_option maxHeartbeats 4000000 in
theorem aX1_firstAt {Γ : ao_C} (d : Nat) (hd : 0 ≤ d) (r0 : Nat) (x1 : Int32) (M : ao_M) (ρ : ao_H) {y : Int32 × ao_M} (h : gX1_firstAt r0 x1 M ρ = some y) : ao_A Γ uX1_firstAt d 0 0 [.ref (Γ.2.2.2 + r0), .int x1] (M, ρ) (ao_PI ρ y) := by
  refine ao_of (by decide) (ao_cat1 (Nat.le_of_ble_eq_true rfl)) (Nat.le_of_ble_eq_true rfl) ?_
  show ao_W Γ uX1_firstAt (ao_rm d 0 0) (ao_Q Γ (ao_PI ρ y) 0 0) 0 0 0 [some (.ref (Γ.2.2.2 + r0)), some (.int x1)] [] (M, ρ)
  unfold gX1_firstAt at h
  refine ao_iload_n 1 dX1_firstAt_0 rfl rfl ?_
  refine ao_if_lt 21 dX1_firstAt_1 (by decide) (fun c1 => ?_) (fun c1 => ?_)
  · replace h := ao_ifT h c1
    refine ao_iconst (v := (-1)) dX1_firstAt_21 (by decide) ?_
    cases h
    exact ao_ireturn dX1_firstAt_22 rfl rfl ⟨rfl, rfl⟩
  · replace h := ao_ifF h c1
    refine ao_iload_n 1 dX1_firstAt_4 rfl rfl ?_
    refine ao_aload_n 0 dX1_firstAt_5 rfl rfl ?_
    obtain ⟨hk2, h⟩ := ao_some h
    refine an_getI r0 1 0 (q := (RX1, TX1, 6)) dX1_firstAt_6 rfl hk2 (Nat.le_of_ble_eq_true rfl) rfl lf_X1_7 ?_
    refine ao_icmp_ge 21 dX1_firstAt_9 (by decide) (fun c3 => ?_) (fun c3 => ?_)
    · replace h := ao_ifT h c3
      refine ao_iconst (v := (-1)) dX1_firstAt_21 (by decide) ?_
      cases h
      exact ao_ireturn dX1_firstAt_22 rfl rfl ⟨rfl, rfl⟩
    · replace h := ao_ifF h c3
      refine ao_aload_n 0 dX1_firstAt_12 rfl rfl ?_
      obtain ⟨j4, hj4, h⟩ := ao_bind h
      refine an_getR r0 1 2 (q := (RX1, TX1, 6)) dX1_firstAt_13 rfl hk2 (Nat.le_of_ble_eq_true rfl) rfl lf_X1_17 hj4 ?_
      refine ao_iload_n 1 dX1_firstAt_16 rfl rfl ?_
      obtain ⟨hk5, h⟩ := ao_some h
      obtain ⟨hb6, h⟩ := ao_some h
      refine an_iaload j4 dX1_firstAt_17 hk5 hb6 ?_
      refine ao_goto 22 dX1_firstAt_18 (by decide) ?_
      cases h
      exact ao_ireturn dX1_firstAt_22 rfl rfl ⟨rfl, rfl⟩

abbrev uX1_secondAt : ao_Mi := (yX1_secondAt, cX1_secondAt, 2, (some .int), [])
def gX1_secondAt (r0 : Nat) (x1 : Int32) (M : ao_M) (ρ : ao_H) : Option (Int32 × ao_M) :=
  if x1 < 0 then
    some ((-1 : Int32), M)
  else
    if ρ.2.1 r0 = 11 then
    if (M r0 0) ≤ x1 then
      some ((-1 : Int32), M)
    else
      (ρ.1 r0 3).bind fun j4 =>
      if ρ.2.1 j4 = 0 then
      if ¬ (x1 < 0 ∨ ρ.2.2.1 j4 ≤ x1.toNatClampNeg) then
      some ((M j4 x1.toNatClampNeg), M)
      else none
      else none
    else none
set_option maxRecDepth 100000 in
set_option maxHeartbeats 4000000 in
theorem aX1_secondAt {Γ : ao_C} (d : Nat) (hd : 0 ≤ d) (r0 : Nat) (x1 : Int32) (M : ao_M) (ρ : ao_H) {y : Int32 × ao_M} (h : gX1_secondAt r0 x1 M ρ = some y) : ao_A Γ uX1_secondAt d 0 0 [.ref (Γ.2.2.2 + r0), .int x1] (M, ρ) (ao_PI ρ y) := by
  refine ao_of (by decide) (ao_cat1 (Nat.le_of_ble_eq_true rfl)) (Nat.le_of_ble_eq_true rfl) ?_
  show ao_W Γ uX1_secondAt (ao_rm d 0 0) (ao_Q Γ (ao_PI ρ y) 0 0) 0 0 0 [some (.ref (Γ.2.2.2 + r0)), some (.int x1)] [] (M, ρ)
  unfold gX1_secondAt at h
  refine ao_iload_n 1 dX1_secondAt_0 rfl rfl ?_
  refine ao_if_lt 21 dX1_secondAt_1 (by decide) (fun c1 => ?_) (fun c1 => ?_)
  · replace h := ao_ifT h c1
    refine ao_iconst (v := (-1)) dX1_secondAt_21 (by decide) ?_
    cases h
    exact ao_ireturn dX1_secondAt_22 rfl rfl ⟨rfl, rfl⟩
  · replace h := ao_ifF h c1
    refine ao_iload_n 1 dX1_secondAt_4 rfl rfl ?_
    refine ao_aload_n 0 dX1_secondAt_5 rfl rfl ?_
    obtain ⟨hk2, h⟩ := ao_some h
    refine an_getI r0 1 0 (q := (RX1, TX1, 6)) dX1_secondAt_6 rfl hk2 (Nat.le_of_ble_eq_true rfl) rfl lf_X1_7 ?_
    refine ao_icmp_ge 21 dX1_secondAt_9 (by decide) (fun c3 => ?_) (fun c3 => ?_)
    · replace h := ao_ifT h c3
      refine ao_iconst (v := (-1)) dX1_secondAt_21 (by decide) ?_
      cases h
      exact ao_ireturn dX1_secondAt_22 rfl rfl ⟨rfl, rfl⟩
    · replace h := ao_ifF h c3
      refine ao_aload_n 0 dX1_secondAt_12 rfl rfl ?_
      obtain ⟨j4, hj4, h⟩ := ao_bind h
      refine an_getR r0 1 3 (q := (RX1, TX1, 6)) dX1_secondAt_13 rfl hk2 (Nat.le_of_ble_eq_true rfl) rfl lf_X1_20 hj4 ?_
      refine ao_iload_n 1 dX1_secondAt_16 rfl rfl ?_
      obtain ⟨hk5, h⟩ := ao_some h
      obtain ⟨hb6, h⟩ := ao_some h
      refine an_iaload j4 dX1_secondAt_17 hk5 hb6 ?_
      refine ao_goto 22 dX1_secondAt_18 (by decide) ?_
      cases h
      exact ao_ireturn dX1_secondAt_22 rfl rfl ⟨rfl, rfl⟩

abbrev uX1_copy : ao_Mi := (yX1_copy, cX1_copy, 3, (some (.object "AsOneHouse$Code")), [])
def fX1_copy : Nat → Nat → Nat → Nat → Int32 → Nat →  ao_M → ao_H → Option (Nat × ao_S)
  | 0, _, _, _, _, _, _, _ => none
  | n + 1, pc, r0, r1, x2, q0, M, ρ =>
    if pc = 0 then
      (ρ.2.2.2.1).bind fun n1 =>
      fX1_copy n 3 r0 0 0 n1 (ao_zr M n1) (ao_nw ρ n1 11 0 6)
    else if pc = 3 then
      if ρ.2.1 r0 = 11 then
      (gX1_init n q0 (M r0 4) M ρ).bind fun p3 =>
      fX1_copy n 11 r0 0 0 q0 p3.1 p3.2
      else none
    else if pc = 11 then
      fX1_copy n 14 r0 q0 (0 : Int32) 0 M ρ
    else if pc = 14 then
      if ρ.2.1 r0 = 11 then
      if (M r0 4) ≤ x2 then
        fX1_copy n 80 r0 r1 x2 0 M ρ
      else
        if (M r0 0) ≤ x2 then
          fX1_copy n 80 r0 r1 x2 0 M ρ
        else
          if ρ.2.1 r1 = 11 then
          if (M r1 0) ≤ x2 then
            fX1_copy n 80 r0 r1 x2 0 M ρ
          else
            (ρ.1 r1 1).bind fun j9 =>
            (ρ.1 r0 1).bind fun j10 =>
            if ρ.2.1 j10 = 0 then
            if ¬ (x2 < 0 ∨ ρ.2.2.1 j10 ≤ x2.toNatClampNeg) then
            if ρ.2.1 j9 = 0 then
            if ¬ (x2 < 0 ∨ ρ.2.2.1 j9 ≤ x2.toNatClampNeg) then
            ao_let (ao_u M j9 x2.toNatClampNeg (M j10 x2.toNatClampNeg)) fun M15 =>
            (ρ.1 r1 2).bind fun j16 =>
            (ρ.1 r0 2).bind fun j17 =>
            if ρ.2.1 j17 = 0 then
            if ¬ (x2 < 0 ∨ ρ.2.2.1 j17 ≤ x2.toNatClampNeg) then
            if ρ.2.1 j16 = 0 then
            if ¬ (x2 < 0 ∨ ρ.2.2.1 j16 ≤ x2.toNatClampNeg) then
            ao_let (ao_u M15 j16 x2.toNatClampNeg (M15 j17 x2.toNatClampNeg)) fun M22 =>
            (ρ.1 r1 3).bind fun j23 =>
            (ρ.1 r0 3).bind fun j24 =>
            if ρ.2.1 j24 = 0 then
            if ¬ (x2 < 0 ∨ ρ.2.2.1 j24 ≤ x2.toNatClampNeg) then
            if ρ.2.1 j23 = 0 then
            if ¬ (x2 < 0 ∨ ρ.2.2.1 j23 ≤ x2.toNatClampNeg) then
            ao_let (ao_u M22 j23 x2.toNatClampNeg (M22 j24 x2.toNatClampNeg)) fun M29 =>
            ao_let (x2 + (1 : Int32)) fun v30 =>
            fX1_copy n 14 r0 r1 v30 0 M29 ρ
            else none
            else none
            else none
            else none
            else none
            else none
            else none
            else none
            else none
            else none
            else none
            else none
          else none
      else none
    else if pc = 80 then
      if ρ.2.1 r1 = 11 then
      ao_let (ao_u M r1 4 (M r1 0)) fun M32 =>
      if ρ.2.1 r0 = 11 then
      ao_let (ao_u M32 r1 5 (M32 r0 5)) fun M34 =>
      some (r1, M34, ρ)
      else none
      else none
    else none
def gX1_copy (n : Nat) (r0 : Nat) (M : ao_M) (ρ : ao_H) : Option (Nat × ao_S) := fX1_copy n 0 r0 0 0 0 M ρ
set_option maxRecDepth 100000 in
set_option maxHeartbeats 4000000 in
theorem mX1_copy : ∀ n : Nat, (∀ (r0 : Nat) (M : ao_M) (ρ : ao_H) (y : Nat × ao_S), fX1_copy n 0 r0 0 0 0 M ρ = some y → ao_le ρ y.2.2) ∧ (∀ (r0 : Nat) (q0 : Nat) (M : ao_M) (ρ : ao_H) (y : Nat × ao_S), fX1_copy n 3 r0 0 0 q0 M ρ = some y → ao_le ρ y.2.2) ∧ (∀ (r0 : Nat) (q0 : Nat) (M : ao_M) (ρ : ao_H) (y : Nat × ao_S), fX1_copy n 11 r0 0 0 q0 M ρ = some y → ao_le ρ y.2.2) ∧ (∀ (r0 : Nat) (r1 : Nat) (x2 : Int32) (M : ao_M) (ρ : ao_H) (y : Nat × ao_S), fX1_copy n 14 r0 r1 x2 0 M ρ = some y → ao_le ρ y.2.2) ∧ (∀ (r0 : Nat) (r1 : Nat) (x2 : Int32) (M : ao_M) (ρ : ao_H) (y : Nat × ao_S), fX1_copy n 80 r0 r1 x2 0 M ρ = some y → ao_le ρ y.2.2) := by
  intro n
  induction n with
  | zero => exact ⟨fun _ _ _ _ h => ao_no h, fun _ _ _ _ _ h => ao_no h, fun _ _ _ _ _ h => ao_no h, fun _ _ _ _ _ _ h => ao_no h, fun _ _ _ _ _ _ h => ao_no h⟩
  | succ n ih =>
    refine ⟨?_, ?_, ?_, ?_, ?_⟩
    · intro r0 M ρ y h
      replace h := ao_ifT h rfl
      obtain ⟨n1, hn1, h⟩ := ao_bind h
      exact ao_le_tr (ao_le_nw _ _ _ _ _) (ih.2.1 r0 n1 (ao_zr M n1) (ao_nw ρ n1 11 0 6) _ h)
    · intro r0 q0 M ρ y h
      replace h := ao_ifF h (by decide)
      replace h := ao_ifT h rfl
      obtain ⟨-, h⟩ := ao_some h
      obtain ⟨p3, hp3, h⟩ := ao_bind h
      exact ao_le_tr (me_X1_init n q0 (M r0 4) M ρ hp3) (ih.2.2.1 r0 q0 p3.1 p3.2 _ h)
    · intro r0 q0 M ρ y h
      replace h := ao_ifF h (by decide)
      replace h := ao_ifF h (by decide)
      replace h := ao_ifT h rfl
      exact ih.2.2.2.1 r0 q0 (0 : Int32) M ρ _ h
    · intro r0 r1 x2 M ρ y h
      replace h := ao_ifF h (by decide)
      replace h := ao_ifF h (by decide)
      replace h := ao_ifF h (by decide)
      replace h := ao_ifT h rfl
      obtain ⟨-, h⟩ := ao_some h
      rcases ao_ifC h with h | h
      · exact ih.2.2.2.2 r0 r1 x2 M ρ _ h
      · rcases ao_ifC h with h | h
        · exact ih.2.2.2.2 r0 r1 x2 M ρ _ h
        · obtain ⟨-, h⟩ := ao_some h
          rcases ao_ifC h with h | h
          · exact ih.2.2.2.2 r0 r1 x2 M ρ _ h
          · obtain ⟨j9, hj9, h⟩ := ao_bind h
            obtain ⟨j10, hj10, h⟩ := ao_bind h
            obtain ⟨-, h⟩ := ao_some h
            obtain ⟨-, h⟩ := ao_some h
            obtain ⟨-, h⟩ := ao_some h
            obtain ⟨-, h⟩ := ao_some h
            replace h := ao_letD h rfl
            generalize (ao_u M j9 x2.toNatClampNeg (M j10 x2.toNatClampNeg)) = M15 at h
            obtain ⟨j16, hj16, h⟩ := ao_bind h
            obtain ⟨j17, hj17, h⟩ := ao_bind h
            obtain ⟨-, h⟩ := ao_some h
            obtain ⟨-, h⟩ := ao_some h
            obtain ⟨-, h⟩ := ao_some h
            obtain ⟨-, h⟩ := ao_some h
            replace h := ao_letD h rfl
            generalize (ao_u M15 j16 x2.toNatClampNeg (M15 j17 x2.toNatClampNeg)) = M22 at h
            obtain ⟨j23, hj23, h⟩ := ao_bind h
            obtain ⟨j24, hj24, h⟩ := ao_bind h
            obtain ⟨-, h⟩ := ao_some h
            obtain ⟨-, h⟩ := ao_some h
            obtain ⟨-, h⟩ := ao_some h
            obtain ⟨-, h⟩ := ao_some h
            replace h := ao_letD h rfl
            generalize (ao_u M22 j23 x2.toNatClampNeg (M22 j24 x2.toNatClampNeg)) = M29 at h
            replace h := ao_letD h rfl
            generalize (x2 + (1 : Int32)) = v30 at h
            exact ih.2.2.2.1 r0 r1 v30 M29 ρ _ h
    · intro r0 r1 x2 M ρ y h
      replace h := ao_ifF h (by decide)
      replace h := ao_ifF h (by decide)
      replace h := ao_ifF h (by decide)
      replace h := ao_ifF h (by decide)
      replace h := ao_ifT h rfl
      obtain ⟨-, h⟩ := ao_some h
      replace h := ao_letD h rfl
      generalize (ao_u M r1 4 (M r1 0)) = M32 at h
      obtain ⟨-, h⟩ := ao_some h
      replace h := ao_letD h rfl
      generalize (ao_u M32 r1 5 (M32 r0 5)) = M34 at h
      cases h
      exact ao_le_rf _
set_option maxRecDepth 100000 in
set_option maxHeartbeats 4000000 in
theorem wX1_copy {Γ : ao_C} (d : Nat) (hd : 2 ≤ d) (MC MS : Nat) : ∀ n : Nat, (∀ (r0 : Nat) (M : ao_M) (ρ : ao_H) (y : Nat × ao_S), fX1_copy n 0 r0 0 0 0 M ρ = some y → ao_W Γ uX1_copy (ao_rm d MC MS) (ao_Q Γ (ao_QR Γ y) MC MS) (ao_dc ρ y.2.2) (ao_ds ρ y.2.2) 0 [some (.ref (Γ.2.2.2 + r0)), none, none] [] (M, ρ)) ∧ (∀ (r0 : Nat) (q0 : Nat) (M : ao_M) (ρ : ao_H) (y : Nat × ao_S), fX1_copy n 3 r0 0 0 q0 M ρ = some y → ao_W Γ uX1_copy (ao_rm d MC MS) (ao_Q Γ (ao_QR Γ y) MC MS) (ao_dc ρ y.2.2) (ao_ds ρ y.2.2) 3 [some (.ref (Γ.2.2.2 + r0)), none, none] [.ref (Γ.2.2.2 + q0)] (M, ρ)) ∧ (∀ (r0 : Nat) (q0 : Nat) (M : ao_M) (ρ : ao_H) (y : Nat × ao_S), fX1_copy n 11 r0 0 0 q0 M ρ = some y → ao_W Γ uX1_copy (ao_rm d MC MS) (ao_Q Γ (ao_QR Γ y) MC MS) (ao_dc ρ y.2.2) (ao_ds ρ y.2.2) 11 [some (.ref (Γ.2.2.2 + r0)), none, none] [.ref (Γ.2.2.2 + q0)] (M, ρ)) ∧ (∀ (r0 : Nat) (r1 : Nat) (x2 : Int32) (M : ao_M) (ρ : ao_H) (y : Nat × ao_S), fX1_copy n 14 r0 r1 x2 0 M ρ = some y → ao_W Γ uX1_copy (ao_rm d MC MS) (ao_Q Γ (ao_QR Γ y) MC MS) (ao_dc ρ y.2.2) (ao_ds ρ y.2.2) 14 [some (.ref (Γ.2.2.2 + r0)), some (.ref (Γ.2.2.2 + r1)), some (.int x2)] [] (M, ρ)) ∧ (∀ (r0 : Nat) (r1 : Nat) (x2 : Int32) (M : ao_M) (ρ : ao_H) (y : Nat × ao_S), fX1_copy n 80 r0 r1 x2 0 M ρ = some y → ao_W Γ uX1_copy (ao_rm d MC MS) (ao_Q Γ (ao_QR Γ y) MC MS) (ao_dc ρ y.2.2) (ao_ds ρ y.2.2) 80 [some (.ref (Γ.2.2.2 + r0)), some (.ref (Γ.2.2.2 + r1)), some (.int x2)] [] (M, ρ)) := by
  intro n
  induction n with
  | zero => exact ⟨fun _ _ _ _ h => ao_no h, fun _ _ _ _ _ h => ao_no h, fun _ _ _ _ _ h => ao_no h, fun _ _ _ _ _ _ h => ao_no h, fun _ _ _ _ _ _ h => ao_no h⟩
  | succ n ih =>
    refine ⟨?_, ?_, ?_, ?_, ?_⟩
    · intro r0 M ρ y h
      replace h := ao_ifT h rfl
      obtain ⟨n1, hn1, h⟩ := ao_bind h
      refine ba_new n1 1 (q := (RX1, TX1, 6)) dX1_copy_0 rfl hn1 lnw_X1_8 (ao_dc_nw ((mX1_copy n).2.1 r0 n1 (ao_zr M n1) (ao_nw ρ n1 11 0 6) _ h)) ?_
      exact ih.2.1 r0 n1 (ao_zr M n1) (ao_nw ρ n1 11 0 6) _ h
    · intro r0 q0 M ρ y h
      replace h := ao_ifF h (by decide)
      replace h := ao_ifT h rfl
      refine ao_dup dX1_copy_3 rfl ?_
      refine ao_aload_n 0 dX1_copy_4 rfl rfl ?_
      obtain ⟨hk2, h⟩ := ao_some h
      refine an_getI r0 1 4 (q := (RX1, TX1, 6)) dX1_copy_5 rfl hk2 (Nat.le_of_ble_eq_true rfl) rfl lf_X1_23 ?_
      obtain ⟨p3, hp3, h⟩ := ao_bind h
      refine bi_callI q0 [.int (M r0 4)] (aX1_init (d - 1) (by omega) n q0 (M r0 4) M ρ hp3) dX1_copy_8 lc_X1_29 li_X1_init rfl rfl rfl (Nat.le_of_ble_eq_true rfl) (ao_hR (by omega) (by decide)) (ao_leC (me_X1_init n q0 (M r0 4) M ρ hp3) ((mX1_copy n).2.2.1 r0 q0 p3.1 p3.2 _ h)) (ao_leS (me_X1_init n q0 (M r0 4) M ρ hp3) ((mX1_copy n).2.2.1 r0 q0 p3.1 p3.2 _ h)) ?_
      exact ih.2.2.1 r0 q0 p3.1 p3.2 _ h
    · intro r0 q0 M ρ y h
      replace h := ao_ifF h (by decide)
      replace h := ao_ifF h (by decide)
      replace h := ao_ifT h rfl
      refine ao_astore_n 1 (lo' := [some (.ref (Γ.2.2.2 + r0)), some (.ref (Γ.2.2.2 + q0)), none]) dX1_copy_11 rfl (Nat.le_of_ble_eq_true rfl) rfl ?_
      refine ao_iconst (v := 0) dX1_copy_12 (by decide) ?_
      refine ao_istore_n 2 (lo' := [some (.ref (Γ.2.2.2 + r0)), some (.ref (Γ.2.2.2 + q0)), some (.int (0 : Int32))]) dX1_copy_13 rfl (Nat.le_of_ble_eq_true rfl) rfl ?_
      exact ih.2.2.2.1 r0 q0 (0 : Int32) M ρ _ h
    · intro r0 r1 x2 M ρ y h
      replace h := ao_ifF h (by decide)
      replace h := ao_ifF h (by decide)
      replace h := ao_ifF h (by decide)
      replace h := ao_ifT h rfl
      refine ao_iload_n 2 dX1_copy_14 rfl rfl ?_
      refine ao_aload_n 0 dX1_copy_15 rfl rfl ?_
      obtain ⟨hk4, h⟩ := ao_some h
      refine an_getI r0 1 4 (q := (RX1, TX1, 6)) dX1_copy_16 rfl hk4 (Nat.le_of_ble_eq_true rfl) rfl lf_X1_23 ?_
      refine ao_icmp_ge 80 dX1_copy_19 (by decide) (fun c5 => ?_) (fun c5 => ?_)
      · replace h := ao_ifT h c5
        exact ih.2.2.2.2 r0 r1 x2 M ρ _ h
      · replace h := ao_ifF h c5
        refine ao_iload_n 2 dX1_copy_22 rfl rfl ?_
        refine ao_aload_n 0 dX1_copy_23 rfl rfl ?_
        refine an_getI r0 1 0 (q := (RX1, TX1, 6)) dX1_copy_24 rfl hk4 (Nat.le_of_ble_eq_true rfl) rfl lf_X1_7 ?_
        refine ao_icmp_ge 80 dX1_copy_27 (by decide) (fun c6 => ?_) (fun c6 => ?_)
        · replace h := ao_ifT h c6
          exact ih.2.2.2.2 r0 r1 x2 M ρ _ h
        · replace h := ao_ifF h c6
          refine ao_iload_n 2 dX1_copy_30 rfl rfl ?_
          refine ao_aload_n 1 dX1_copy_31 rfl rfl ?_
          obtain ⟨hk7, h⟩ := ao_some h
          refine an_getI r1 1 0 (q := (RX1, TX1, 6)) dX1_copy_32 rfl hk7 (Nat.le_of_ble_eq_true rfl) rfl lf_X1_7 ?_
          refine ao_icmp_ge 80 dX1_copy_35 (by decide) (fun c8 => ?_) (fun c8 => ?_)
          · replace h := ao_ifT h c8
            exact ih.2.2.2.2 r0 r1 x2 M ρ _ h
          · replace h := ao_ifF h c8
            refine ao_aload_n 1 dX1_copy_38 rfl rfl ?_
            obtain ⟨j9, hj9, h⟩ := ao_bind h
            refine an_getR r1 1 1 (q := (RX1, TX1, 6)) dX1_copy_39 rfl hk7 (Nat.le_of_ble_eq_true rfl) rfl lf_X1_13 hj9 ?_
            refine ao_iload_n 2 dX1_copy_42 rfl rfl ?_
            refine ao_aload_n 0 dX1_copy_43 rfl rfl ?_
            obtain ⟨j10, hj10, h⟩ := ao_bind h
            refine an_getR r0 1 1 (q := (RX1, TX1, 6)) dX1_copy_44 rfl hk4 (Nat.le_of_ble_eq_true rfl) rfl lf_X1_13 hj10 ?_
            refine ao_iload_n 2 dX1_copy_47 rfl rfl ?_
            obtain ⟨hk11, h⟩ := ao_some h
            obtain ⟨hb12, h⟩ := ao_some h
            refine an_iaload j10 dX1_copy_48 hk11 hb12 ?_
            obtain ⟨hk13, h⟩ := ao_some h
            obtain ⟨hb14, h⟩ := ao_some h
            refine an_iastore j9 dX1_copy_49 hk13 hb14 (fun M15 hM15 => ?_)
            replace h := ao_letD h hM15
            refine ao_aload_n 1 dX1_copy_50 rfl rfl ?_
            obtain ⟨j16, hj16, h⟩ := ao_bind h
            refine an_getR r1 1 2 (q := (RX1, TX1, 6)) dX1_copy_51 rfl hk7 (Nat.le_of_ble_eq_true rfl) rfl lf_X1_17 hj16 ?_
            refine ao_iload_n 2 dX1_copy_54 rfl rfl ?_
            refine ao_aload_n 0 dX1_copy_55 rfl rfl ?_
            obtain ⟨j17, hj17, h⟩ := ao_bind h
            refine an_getR r0 1 2 (q := (RX1, TX1, 6)) dX1_copy_56 rfl hk4 (Nat.le_of_ble_eq_true rfl) rfl lf_X1_17 hj17 ?_
            refine ao_iload_n 2 dX1_copy_59 rfl rfl ?_
            obtain ⟨hk18, h⟩ := ao_some h
            obtain ⟨hb19, h⟩ := ao_some h
            refine an_iaload j17 dX1_copy_60 hk18 hb19 ?_
            obtain ⟨hk20, h⟩ := ao_some h
            obtain ⟨hb21, h⟩ := ao_some h
            refine an_iastore j16 dX1_copy_61 hk20 hb21 (fun M22 hM22 => ?_)
            replace h := ao_letD h hM22
            refine ao_aload_n 1 dX1_copy_62 rfl rfl ?_
            obtain ⟨j23, hj23, h⟩ := ao_bind h
            refine an_getR r1 1 3 (q := (RX1, TX1, 6)) dX1_copy_63 rfl hk7 (Nat.le_of_ble_eq_true rfl) rfl lf_X1_20 hj23 ?_
            refine ao_iload_n 2 dX1_copy_66 rfl rfl ?_
            refine ao_aload_n 0 dX1_copy_67 rfl rfl ?_
            obtain ⟨j24, hj24, h⟩ := ao_bind h
            refine an_getR r0 1 3 (q := (RX1, TX1, 6)) dX1_copy_68 rfl hk4 (Nat.le_of_ble_eq_true rfl) rfl lf_X1_20 hj24 ?_
            refine ao_iload_n 2 dX1_copy_71 rfl rfl ?_
            obtain ⟨hk25, h⟩ := ao_some h
            obtain ⟨hb26, h⟩ := ao_some h
            refine an_iaload j24 dX1_copy_72 hk25 hb26 ?_
            obtain ⟨hk27, h⟩ := ao_some h
            obtain ⟨hb28, h⟩ := ao_some h
            refine an_iastore j23 dX1_copy_73 hk27 hb28 (fun M29 hM29 => ?_)
            replace h := ao_letD h hM29
            obtain ⟨v30, hv30⟩ : ∃ z : Int32, z = x2 + (1 : Int32) := ⟨_, rfl⟩
            replace h := ao_letD h hv30
            refine ao_iinc 2 (v := v30) (lo' := [some (.ref (Γ.2.2.2 + r0)), some (.ref (Γ.2.2.2 + r1)), some (.int v30)]) dX1_copy_74 rfl (by rw [hv30]; rfl) (Nat.le_of_ble_eq_true rfl) rfl ?_
            refine ao_goto 14 dX1_copy_77 (by decide) ?_
            exact ih.2.2.2.1 r0 r1 v30 M29 ρ _ h
    · intro r0 r1 x2 M ρ y h
      replace h := ao_ifF h (by decide)
      replace h := ao_ifF h (by decide)
      replace h := ao_ifF h (by decide)
      replace h := ao_ifF h (by decide)
      replace h := ao_ifT h rfl
      refine ao_aload_n 1 dX1_copy_80 rfl rfl ?_
      refine ao_aload_n 1 dX1_copy_81 rfl rfl ?_
      obtain ⟨hk31, h⟩ := ao_some h
      refine an_getI r1 1 0 (q := (RX1, TX1, 6)) dX1_copy_82 rfl hk31 (Nat.le_of_ble_eq_true rfl) rfl lf_X1_7 ?_
      refine an_putI r1 1 4 (q := (RX1, TX1, 6)) dX1_copy_85 rfl hk31 (Nat.le_of_ble_eq_true rfl) lf_X1_23 rfl rfl rfl rfl (fun M32 hM32 => ?_)
      replace h := ao_letD h hM32
      refine ao_aload_n 1 dX1_copy_88 rfl rfl ?_
      refine ao_aload_n 0 dX1_copy_89 rfl rfl ?_
      obtain ⟨hk33, h⟩ := ao_some h
      refine an_getI r0 1 5 (q := (RX1, TX1, 6)) dX1_copy_90 rfl hk33 (Nat.le_of_ble_eq_true rfl) rfl lf_X1_26 ?_
      refine an_putI r1 1 5 (q := (RX1, TX1, 6)) dX1_copy_93 rfl hk31 (Nat.le_of_ble_eq_true rfl) lf_X1_26 rfl rfl rfl rfl (fun M34 hM34 => ?_)
      replace h := ao_letD h hM34
      refine ao_aload_n 1 dX1_copy_96 rfl rfl ?_
      cases h
      exact ao_areturn dX1_copy_97 rfl (Or.inl ⟨_, rfl⟩) ⟨rfl, rfl⟩
theorem me_X1_copy (n : Nat) (r0 : Nat) (M : ao_M) (ρ : ao_H) {y : Nat × ao_S} (h : gX1_copy n r0 M ρ = some y) : ao_le ρ y.2.2 := (mX1_copy n).1 r0 M ρ y h
set_option maxRecDepth 100000 in
set_option maxHeartbeats 4000000 in
theorem aX1_copy {Γ : ao_C} (d : Nat) (hd : 2 ≤ d) (n : Nat) (r0 : Nat) (M : ao_M) (ρ : ao_H) {y : Nat × ao_S} (h : gX1_copy n r0 M ρ = some y) : ao_A Γ uX1_copy d (ao_dc ρ y.2.2) (ao_ds ρ y.2.2) [.ref (Γ.2.2.2 + r0)] (M, ρ) (ao_QR Γ y) := by
  refine ao_of (by decide) (ao_cat1 (Nat.le_of_ble_eq_true rfl)) (Nat.le_of_ble_eq_true rfl) ?_
  show ao_W Γ uX1_copy (ao_rm d (ao_dc ρ y.2.2) (ao_ds ρ y.2.2)) (ao_Q Γ (ao_QR Γ y) (ao_dc ρ y.2.2) (ao_ds ρ y.2.2)) (ao_dc ρ y.2.2) (ao_ds ρ y.2.2) 0 [some (.ref (Γ.2.2.2 + r0)), none, none] [] (M, ρ)
  exact (wX1_copy d hd _ _ n).1 r0 M ρ y h

abbrev uX2_howManyAre : ao_Mi := (yX2_howManyAre, cX2_howManyAre, 4, (some .int), [])
def fX2_howManyAre : Nat → Nat → Nat → Int32 → Int32 → Int32 →  ao_M → ao_H → Option (Int32 × ao_M)
  | 0, _, _, _, _, _, _, _ => none
  | n + 1, pc, r0, x1, x2, x3, M, ρ =>
    if pc = 0 then
      fX2_howManyAre n 4 r0 x1 (0 : Int32) (0 : Int32) M ρ
    else if pc = 4 then
      if (6 : Int32) ≤ x3 then
        some (x2, M)
      else
        if ρ.2.1 r0 = 12 then
        (ρ.1 r0 1).bind fun j3 =>
        if ρ.2.1 j3 = 4 then
        if ¬ (x3 < 0 ∨ ρ.2.2.1 j3 ≤ x3.toNatClampNeg) then
        (ρ.1 j3 x3.toNatClampNeg).bind fun j6 =>
        if ρ.2.1 j6 = 17 then
        if (M j6 2) = x1 then
          ao_let (x2 + (1 : Int32)) fun v9 =>
          fX2_howManyAre n 26 r0 x1 v9 x3 M ρ
        else
          fX2_howManyAre n 26 r0 x1 x2 x3 M ρ
        else none
        else none
        else none
        else none
    else if pc = 26 then
      ao_let (x3 + (1 : Int32)) fun v10 =>
      fX2_howManyAre n 4 r0 x1 x2 v10 M ρ
    else none
def gX2_howManyAre (n : Nat) (r0 : Nat) (x1 : Int32) (M : ao_M) (ρ : ao_H) : Option (Int32 × ao_M) := fX2_howManyAre n 0 r0 x1 0 0 M ρ
set_option maxRecDepth 100000 in
set_option maxHeartbeats 4000000 in
theorem wX2_howManyAre {Γ : ao_C} {ρ : ao_H} (d : Nat) (hd : 0 ≤ d) : ∀ n : Nat, (∀ (r0 : Nat) (x1 : Int32) (M : ao_M) (y : Int32 × ao_M), fX2_howManyAre n 0 r0 x1 0 0 M ρ = some y → ao_W Γ uX2_howManyAre (ao_rm d 0 0) (ao_Q Γ (ao_PI ρ y) 0 0) 0 0 0 [some (.ref (Γ.2.2.2 + r0)), some (.int x1), none, none] [] (M, ρ)) ∧ (∀ (r0 : Nat) (x1 : Int32) (x2 : Int32) (x3 : Int32) (M : ao_M) (y : Int32 × ao_M), fX2_howManyAre n 4 r0 x1 x2 x3 M ρ = some y → ao_W Γ uX2_howManyAre (ao_rm d 0 0) (ao_Q Γ (ao_PI ρ y) 0 0) 0 0 4 [some (.ref (Γ.2.2.2 + r0)), some (.int x1), some (.int x2), some (.int x3)] [] (M, ρ)) ∧ (∀ (r0 : Nat) (x1 : Int32) (x2 : Int32) (x3 : Int32) (M : ao_M) (y : Int32 × ao_M), fX2_howManyAre n 26 r0 x1 x2 x3 M ρ = some y → ao_W Γ uX2_howManyAre (ao_rm d 0 0) (ao_Q Γ (ao_PI ρ y) 0 0) 0 0 26 [some (.ref (Γ.2.2.2 + r0)), some (.int x1), some (.int x2), some (.int x3)] [] (M, ρ)) := by
  intro n
  induction n with
  | zero => exact ⟨fun _ _ _ _ h => ao_no h, fun _ _ _ _ _ _ h => ao_no h, fun _ _ _ _ _ _ h => ao_no h⟩
  | succ n ih =>
    refine ⟨?_, ?_, ?_⟩
    · intro r0 x1 M y h
      replace h := ao_ifT h rfl
      refine ao_iconst (v := 0) dX2_howManyAre_0 (by decide) ?_
      refine ao_istore_n 2 (lo' := [some (.ref (Γ.2.2.2 + r0)), some (.int x1), some (.int (0 : Int32)), none]) dX2_howManyAre_1 rfl (Nat.le_of_ble_eq_true rfl) rfl ?_
      refine ao_iconst (v := 0) dX2_howManyAre_2 (by decide) ?_
      refine ao_istore_n 3 (lo' := [some (.ref (Γ.2.2.2 + r0)), some (.int x1), some (.int (0 : Int32)), some (.int (0 : Int32))]) dX2_howManyAre_3 rfl (Nat.le_of_ble_eq_true rfl) rfl ?_
      exact ih.2.1 r0 x1 (0 : Int32) (0 : Int32) M _ h
    · intro r0 x1 x2 x3 M y h
      replace h := ao_ifF h (by decide)
      replace h := ao_ifT h rfl
      refine ao_iload_n 3 dX2_howManyAre_4 rfl rfl ?_
      refine ao_bipush (v := 6) dX2_howManyAre_5 (by decide) ?_
      refine ao_icmp_ge 32 dX2_howManyAre_7 (by decide) (fun c1 => ?_) (fun c1 => ?_)
      · replace h := ao_ifT h c1
        refine ao_iload_n 2 dX2_howManyAre_32 rfl rfl ?_
        cases h
        exact ao_ireturn dX2_howManyAre_33 rfl rfl ⟨rfl, rfl⟩
      · replace h := ao_ifF h c1
        refine ao_aload_n 0 dX2_howManyAre_10 rfl rfl ?_
        obtain ⟨hk2, h⟩ := ao_some h
        obtain ⟨j3, hj3, h⟩ := ao_bind h
        refine an_getR r0 2 1 (q := (RX2, TX2, 7)) dX2_howManyAre_11 rfl hk2 (Nat.le_of_ble_eq_true rfl) rfl lf_X2_34 hj3 ?_
        refine ao_iload_n 3 dX2_howManyAre_14 rfl rfl ?_
        obtain ⟨hk4, h⟩ := ao_some h
        obtain ⟨hb5, h⟩ := ao_some h
        obtain ⟨j6, hj6, h⟩ := ao_bind h
        refine an_aaload j3 4 dX2_howManyAre_15 hk4 (by decide) hb5 hj6 ?_
        obtain ⟨hk7, h⟩ := ao_some h
        refine an_getI j6 7 2 (q := (RX7, TX7, 20)) dX2_howManyAre_16 rfl hk7 (Nat.le_of_ble_eq_true rfl) rfl lf_X2_55 ?_
        refine ao_iload_n 1 dX2_howManyAre_19 rfl rfl ?_
        refine ao_icmp_ne 26 dX2_howManyAre_20 (by decide) (fun c8 => ?_) (fun c8 => ?_)
        · replace h := ao_ifF h c8
          exact ih.2.2 r0 x1 x2 x3 M _ h
        · replace h := ao_ifT h c8
          obtain ⟨v9, hv9⟩ : ∃ z : Int32, z = x2 + (1 : Int32) := ⟨_, rfl⟩
          replace h := ao_letD h hv9
          refine ao_iinc 2 (v := v9) (lo' := [some (.ref (Γ.2.2.2 + r0)), some (.int x1), some (.int v9), some (.int x3)]) dX2_howManyAre_23 rfl (by rw [hv9]; rfl) (Nat.le_of_ble_eq_true rfl) rfl ?_
          exact ih.2.2 r0 x1 v9 x3 M _ h
    · intro r0 x1 x2 x3 M y h
      replace h := ao_ifF h (by decide)
      replace h := ao_ifF h (by decide)
      replace h := ao_ifT h rfl
      obtain ⟨v10, hv10⟩ : ∃ z : Int32, z = x3 + (1 : Int32) := ⟨_, rfl⟩
      replace h := ao_letD h hv10
      refine ao_iinc 3 (v := v10) (lo' := [some (.ref (Γ.2.2.2 + r0)), some (.int x1), some (.int x2), some (.int v10)]) dX2_howManyAre_26 rfl (by rw [hv10]; rfl) (Nat.le_of_ble_eq_true rfl) rfl ?_
      refine ao_goto 4 dX2_howManyAre_29 (by decide) ?_
      exact ih.2.1 r0 x1 x2 v10 M _ h
set_option maxRecDepth 100000 in
set_option maxHeartbeats 4000000 in
theorem aX2_howManyAre {Γ : ao_C} (d : Nat) (hd : 0 ≤ d) (n : Nat) (r0 : Nat) (x1 : Int32) (M : ao_M) (ρ : ao_H) {y : Int32 × ao_M} (h : gX2_howManyAre n r0 x1 M ρ = some y) : ao_A Γ uX2_howManyAre d 0 0 [.ref (Γ.2.2.2 + r0), .int x1] (M, ρ) (ao_PI ρ y) := by
  refine ao_of (by decide) (ao_cat1 (Nat.le_of_ble_eq_true rfl)) (Nat.le_of_ble_eq_true rfl) ?_
  show ao_W Γ uX2_howManyAre (ao_rm d 0 0) (ao_Q Γ (ao_PI ρ y) 0 0) 0 0 0 [some (.ref (Γ.2.2.2 + r0)), some (.int x1), none, none] [] (M, ρ)
  exact (wX2_howManyAre d hd n).1 r0 x1 M y h

abbrev uX2_compute : ao_Mi := (yX2_compute, cX2_compute, 3, (some .int), [])
def gX2_compute (x0 : Int32) (x1 : Int32) (x2 : Int32) (M : ao_M) (ρ : ao_H) : Option (Int32 × ao_M) :=
  if x0 = (4 : Int32) then
    some ((x1 + x2), M)
  else
    if x0 = (5 : Int32) then
      some ((x1 - x2), M)
    else
      if x0 = (6 : Int32) then
        some ((x1 * x2), M)
      else
        if x0 = (7 : Int32) then
          if x1 = x2 then
            some ((1 : Int32), M)
          else
            some ((0 : Int32), M)
        else
          if x2 ≤ x1 then
            some ((0 : Int32), M)
          else
            some ((1 : Int32), M)
set_option maxRecDepth 100000 in
set_option maxHeartbeats 4000000 in
theorem aX2_compute {Γ : ao_C} (d : Nat) (hd : 0 ≤ d) (x0 : Int32) (x1 : Int32) (x2 : Int32) (M : ao_M) (ρ : ao_H) {y : Int32 × ao_M} (h : gX2_compute x0 x1 x2 M ρ = some y) : ao_A Γ uX2_compute d 0 0 [.int x0, .int x1, .int x2] (M, ρ) (ao_PI ρ y) := by
  refine ao_of (by decide) (ao_cat1 (Nat.le_of_ble_eq_true rfl)) (Nat.le_of_ble_eq_true rfl) ?_
  show ao_W Γ uX2_compute (ao_rm d 0 0) (ao_Q Γ (ao_PI ρ y) 0 0) 0 0 0 [some (.int x0), some (.int x1), some (.int x2)] [] (M, ρ)
  unfold gX2_compute at h
  refine ao_iload_n 0 dX2_compute_0 rfl rfl ?_
  by_cases c1 : x0 = (4 : Int32)
  · replace h := ao_ifT h c1
    refine ao_tableIn 32 dX2_compute_1 (by rw [c1]; decide) (by rw [c1]; decide) (by rw [c1]; rfl) (by decide) ?_
    refine ao_iload_n 1 dX2_compute_32 rfl rfl ?_
    refine ao_iload_n 2 dX2_compute_33 rfl rfl ?_
    refine ao_iadd dX2_compute_34 ?_
    cases h
    exact ao_ireturn dX2_compute_35 rfl rfl ⟨rfl, rfl⟩
  · replace h := ao_ifF h c1
    by_cases c2 : x0 = (5 : Int32)
    · replace h := ao_ifT h c2
      refine ao_tableIn 36 dX2_compute_1 (by rw [c2]; decide) (by rw [c2]; decide) (by rw [c2]; rfl) (by decide) ?_
      refine ao_iload_n 1 dX2_compute_36 rfl rfl ?_
      refine ao_iload_n 2 dX2_compute_37 rfl rfl ?_
      refine ao_isub dX2_compute_38 ?_
      cases h
      exact ao_ireturn dX2_compute_39 rfl rfl ⟨rfl, rfl⟩
    · replace h := ao_ifF h c2
      by_cases c3 : x0 = (6 : Int32)
      · replace h := ao_ifT h c3
        refine ao_tableIn 40 dX2_compute_1 (by rw [c3]; decide) (by rw [c3]; decide) (by rw [c3]; rfl) (by decide) ?_
        refine ao_iload_n 1 dX2_compute_40 rfl rfl ?_
        refine ao_iload_n 2 dX2_compute_41 rfl rfl ?_
        refine ao_imul dX2_compute_42 ?_
        cases h
        exact ao_ireturn dX2_compute_43 rfl rfl ⟨rfl, rfl⟩
      · replace h := ao_ifF h c3
        by_cases c4 : x0 = (7 : Int32)
        · replace h := ao_ifT h c4
          refine ao_tableIn 44 dX2_compute_1 (by rw [c4]; decide) (by rw [c4]; decide) (by rw [c4]; rfl) (by decide) ?_
          refine ao_iload_n 1 dX2_compute_44 rfl rfl ?_
          refine ao_iload_n 2 dX2_compute_45 rfl rfl ?_
          refine ao_icmp_ne 53 dX2_compute_46 (by decide) (fun c5 => ?_) (fun c5 => ?_)
          · replace h := ao_ifF h c5
            refine ao_iconst (v := 0) dX2_compute_53 (by decide) ?_
            cases h
            exact ao_ireturn dX2_compute_54 rfl rfl ⟨rfl, rfl⟩
          · replace h := ao_ifT h c5
            refine ao_iconst (v := 1) dX2_compute_49 (by decide) ?_
            refine ao_goto 54 dX2_compute_50 (by decide) ?_
            cases h
            exact ao_ireturn dX2_compute_54 rfl rfl ⟨rfl, rfl⟩
        · replace h := ao_ifF h c4
          refine ao_tableOut 55 dX2_compute_1 (by have nc1 := ao_ne (z := 4) c1 (by decide); have nc2 := ao_ne (z := 5) c2 (by decide); have nc3 := ao_ne (z := 6) c3 (by decide); have nc4 := ao_ne (z := 7) c4 (by decide); omega) (by decide) ?_
          refine ao_iload_n 1 dX2_compute_55 rfl rfl ?_
          refine ao_iload_n 2 dX2_compute_56 rfl rfl ?_
          refine ao_icmp_ge 64 dX2_compute_57 (by decide) (fun c6 => ?_) (fun c6 => ?_)
          · replace h := ao_ifT h c6
            refine ao_iconst (v := 0) dX2_compute_64 (by decide) ?_
            cases h
            exact ao_ireturn dX2_compute_65 rfl rfl ⟨rfl, rfl⟩
          · replace h := ao_ifF h c6
            refine ao_iconst (v := 1) dX2_compute_60 (by decide) ?_
            refine ao_goto 65 dX2_compute_61 (by decide) ?_
            cases h
            exact ao_ireturn dX2_compute_65 rfl rfl ⟨rfl, rfl⟩

abbrev uX2_setRegister : ao_Mi := (yX2_setRegister, cX2_setRegister, 3, none, [])
def gX2_setRegister (r0 : Nat) (x1 : Int32) (x2 : Int32) (M : ao_M) (ρ : ao_H) : Option (ao_M) :=
  if x1 < 0 then
    some M
  else
    if (26 : Int32) ≤ x1 then
      some M
    else
      if ρ.2.1 r0 = 17 then
      (ρ.1 r0 6).bind fun j4 =>
      if ρ.2.1 j4 = 0 then
      if ¬ (x1 < 0 ∨ ρ.2.2.1 j4 ≤ x1.toNatClampNeg) then
      ao_let (ao_u M j4 x1.toNatClampNeg x2) fun M7 =>
      some M7
      else none
      else none
      else none
set_option maxRecDepth 100000 in
set_option maxHeartbeats 4000000 in
theorem aX2_setRegister {Γ : ao_C} (d : Nat) (hd : 0 ≤ d) (r0 : Nat) (x1 : Int32) (x2 : Int32) (M : ao_M) (ρ : ao_H) {y : ao_M} (h : gX2_setRegister r0 x1 x2 M ρ = some y) : ao_A Γ uX2_setRegister d 0 0 [.ref (Γ.2.2.2 + r0), .int x1, .int x2] (M, ρ) (ao_PV ρ y) := by
  refine ao_of (by decide) (ao_cat1 (Nat.le_of_ble_eq_true rfl)) (Nat.le_of_ble_eq_true rfl) ?_
  show ao_W Γ uX2_setRegister (ao_rm d 0 0) (ao_Q Γ (ao_PV ρ y) 0 0) 0 0 0 [some (.ref (Γ.2.2.2 + r0)), some (.int x1), some (.int x2)] [] (M, ρ)
  unfold gX2_setRegister at h
  refine ao_iload_n 1 dX2_setRegister_0 rfl rfl ?_
  refine ao_if_lt 17 dX2_setRegister_1 (by decide) (fun c1 => ?_) (fun c1 => ?_)
  · replace h := ao_ifT h c1
    cases h
    exact ao_return dX2_setRegister_17 rfl ⟨rfl, rfl⟩
  · replace h := ao_ifF h c1
    refine ao_iload_n 1 dX2_setRegister_4 rfl rfl ?_
    refine ao_bipush (v := 26) dX2_setRegister_5 (by decide) ?_
    refine ao_icmp_ge 17 dX2_setRegister_7 (by decide) (fun c2 => ?_) (fun c2 => ?_)
    · replace h := ao_ifT h c2
      cases h
      exact ao_return dX2_setRegister_17 rfl ⟨rfl, rfl⟩
    · replace h := ao_ifF h c2
      refine ao_aload_n 0 dX2_setRegister_10 rfl rfl ?_
      obtain ⟨hk3, h⟩ := ao_some h
      obtain ⟨j4, hj4, h⟩ := ao_bind h
      refine an_getR r0 7 6 (q := (RX7, TX7, 20)) dX2_setRegister_11 rfl hk3 (Nat.le_of_ble_eq_true rfl) rfl lf_X2_155 hj4 ?_
      refine ao_iload_n 1 dX2_setRegister_14 rfl rfl ?_
      refine ao_iload_n 2 dX2_setRegister_15 rfl rfl ?_
      obtain ⟨hk5, h⟩ := ao_some h
      obtain ⟨hb6, h⟩ := ao_some h
      refine an_iastore j4 dX2_setRegister_16 hk5 hb6 (fun M7 hM7 => ?_)
      replace h := ao_letD h hM7
      cases h
      exact ao_return dX2_setRegister_17 rfl ⟨rfl, rfl⟩

abbrev uX2_writesAtOnce : ao_Mi := (yX2_writesAtOnce, cX2_writesAtOnce, 1, (some .boolean), [])
def fX2_writesAtOnce : Nat → Nat → Nat →  ao_M → ao_H → Option (Int32 × ao_M)
  | 0, _, _, _, _ => none
  | n + 1, pc, r0, M, ρ =>
    if pc = 0 then
      if ρ.2.1 r0 = 12 then
      if (M r0 5) = (3 : Int32) then
        fX2_writesAtOnce n 16 r0 M ρ
      else
        if (M r0 5) = (4 : Int32) then
          fX2_writesAtOnce n 16 r0 M ρ
        else
          some ((0 : Int32), M)
      else none
    else if pc = 16 then
      some ((1 : Int32), M)
    else none
def gX2_writesAtOnce (n : Nat) (r0 : Nat) (M : ao_M) (ρ : ao_H) : Option (Int32 × ao_M) := fX2_writesAtOnce n 0 r0 M ρ
set_option maxRecDepth 100000 in
set_option maxHeartbeats 4000000 in
theorem wX2_writesAtOnce {Γ : ao_C} {ρ : ao_H} (d : Nat) (hd : 0 ≤ d) : ∀ n : Nat, (∀ (r0 : Nat) (M : ao_M) (y : Int32 × ao_M), fX2_writesAtOnce n 0 r0 M ρ = some y → ao_W Γ uX2_writesAtOnce (ao_rm d 0 0) (ao_Q Γ (ao_PI ρ y) 0 0) 0 0 0 [some (.ref (Γ.2.2.2 + r0))] [] (M, ρ)) ∧ (∀ (r0 : Nat) (M : ao_M) (y : Int32 × ao_M), fX2_writesAtOnce n 16 r0 M ρ = some y → ao_W Γ uX2_writesAtOnce (ao_rm d 0 0) (ao_Q Γ (ao_PI ρ y) 0 0) 0 0 16 [some (.ref (Γ.2.2.2 + r0))] [] (M, ρ)) := by
  intro n
  induction n with
  | zero => exact ⟨fun _ _ _ h => ao_no h, fun _ _ _ h => ao_no h⟩
  | succ n ih =>
    refine ⟨?_, ?_⟩
    · intro r0 M y h
      replace h := ao_ifT h rfl
      refine ao_aload_n 0 dX2_writesAtOnce_0 rfl rfl ?_
      obtain ⟨hk1, h⟩ := ao_some h
      refine an_getI r0 2 5 (q := (RX2, TX2, 7)) dX2_writesAtOnce_1 rfl hk1 (Nat.le_of_ble_eq_true rfl) rfl lf_X2_41 ?_
      refine ao_iconst (v := 3) dX2_writesAtOnce_4 (by decide) ?_
      refine ao_icmp_eq 16 dX2_writesAtOnce_5 (by decide) (fun c2 => ?_) (fun c2 => ?_)
      · replace h := ao_ifT h c2
        exact ih.2 r0 M _ h
      · replace h := ao_ifF h c2
        refine ao_aload_n 0 dX2_writesAtOnce_8 rfl rfl ?_
        refine an_getI r0 2 5 (q := (RX2, TX2, 7)) dX2_writesAtOnce_9 rfl hk1 (Nat.le_of_ble_eq_true rfl) rfl lf_X2_41 ?_
        refine ao_iconst (v := 4) dX2_writesAtOnce_12 (by decide) ?_
        refine ao_icmp_ne 20 dX2_writesAtOnce_13 (by decide) (fun c3 => ?_) (fun c3 => ?_)
        · replace h := ao_ifF h c3
          refine ao_iconst (v := 0) dX2_writesAtOnce_20 (by decide) ?_
          cases h
          exact ao_ireturn dX2_writesAtOnce_21 rfl rfl ⟨rfl, rfl⟩
        · replace h := ao_ifT h c3
          exact ih.2 r0 M _ h
    · intro r0 M y h
      replace h := ao_ifF h (by decide)
      replace h := ao_ifT h rfl
      refine ao_iconst (v := 1) dX2_writesAtOnce_16 (by decide) ?_
      refine ao_goto 21 dX2_writesAtOnce_17 (by decide) ?_
      cases h
      exact ao_ireturn dX2_writesAtOnce_21 rfl rfl ⟨rfl, rfl⟩
set_option maxRecDepth 100000 in
set_option maxHeartbeats 4000000 in
theorem aX2_writesAtOnce {Γ : ao_C} (d : Nat) (hd : 0 ≤ d) (n : Nat) (r0 : Nat) (M : ao_M) (ρ : ao_H) {y : Int32 × ao_M} (h : gX2_writesAtOnce n r0 M ρ = some y) : ao_A Γ uX2_writesAtOnce d 0 0 [.ref (Γ.2.2.2 + r0)] (M, ρ) (ao_PI ρ y) := by
  refine ao_of (by decide) (ao_cat1 (Nat.le_of_ble_eq_true rfl)) (Nat.le_of_ble_eq_true rfl) ?_
  show ao_W Γ uX2_writesAtOnce (ao_rm d 0 0) (ao_Q Γ (ao_PI ρ y) 0 0) 0 0 0 [some (.ref (Γ.2.2.2 + r0))] [] (M, ρ)
  exact (wX2_writesAtOnce d hd n).1 r0 M y h

abbrev uX2_giveBack : ao_Mi := (yX2_giveBack, cX2_giveBack, 3, none, [])
def fX2_giveBack : Nat → Nat → Nat → Nat → Int32 →  ao_M → ao_H → Option (ao_M)
  | 0, _, _, _, _, _, _ => none
  | n + 1, pc, r0, r1, x2, M, ρ =>
    if pc = 0 then
      fX2_giveBack n 2 r0 r1 (0 : Int32) M ρ
    else if pc = 2 then
      if (26 : Int32) ≤ x2 then
        some M
      else
        if ρ.2.1 r1 = 13 then
        if (((M r1 6) >>> (x2 &&& 31)) &&& (1 : Int32)) = 0 then
          fX2_giveBack n 34 r0 r1 x2 M ρ
        else
          if ρ.2.1 r0 = 12 then
          (ρ.1 r0 0).bind fun j5 =>
          if ρ.2.1 j5 = 15 then
          (ρ.1 j5 0).bind fun j7 =>
          (ρ.1 r1 5).bind fun j8 =>
          if ρ.2.1 j8 = 0 then
          if ¬ (x2 < 0 ∨ ρ.2.2.1 j8 ≤ x2.toNatClampNeg) then
          if ρ.2.1 j7 = 0 then
          if ¬ (x2 < 0 ∨ ρ.2.2.1 j7 ≤ x2.toNatClampNeg) then
          ao_let (ao_u M j7 x2.toNatClampNeg (M j8 x2.toNatClampNeg)) fun M13 =>
          fX2_giveBack n 34 r0 r1 x2 M13 ρ
          else none
          else none
          else none
          else none
          else none
          else none
        else none
    else if pc = 34 then
      ao_let (x2 + (1 : Int32)) fun v14 =>
      fX2_giveBack n 2 r0 r1 v14 M ρ
    else none
def gX2_giveBack (n : Nat) (r0 : Nat) (r1 : Nat) (M : ao_M) (ρ : ao_H) : Option (ao_M) := fX2_giveBack n 0 r0 r1 0 M ρ
set_option maxRecDepth 100000 in
set_option maxHeartbeats 4000000 in
theorem wX2_giveBack {Γ : ao_C} {ρ : ao_H} (d : Nat) (hd : 0 ≤ d) : ∀ n : Nat, (∀ (r0 : Nat) (r1 : Nat) (M : ao_M) (y : ao_M), fX2_giveBack n 0 r0 r1 0 M ρ = some y → ao_W Γ uX2_giveBack (ao_rm d 0 0) (ao_Q Γ (ao_PV ρ y) 0 0) 0 0 0 [some (.ref (Γ.2.2.2 + r0)), some (.ref (Γ.2.2.2 + r1)), none] [] (M, ρ)) ∧ (∀ (r0 : Nat) (r1 : Nat) (x2 : Int32) (M : ao_M) (y : ao_M), fX2_giveBack n 2 r0 r1 x2 M ρ = some y → ao_W Γ uX2_giveBack (ao_rm d 0 0) (ao_Q Γ (ao_PV ρ y) 0 0) 0 0 2 [some (.ref (Γ.2.2.2 + r0)), some (.ref (Γ.2.2.2 + r1)), some (.int x2)] [] (M, ρ)) ∧ (∀ (r0 : Nat) (r1 : Nat) (x2 : Int32) (M : ao_M) (y : ao_M), fX2_giveBack n 34 r0 r1 x2 M ρ = some y → ao_W Γ uX2_giveBack (ao_rm d 0 0) (ao_Q Γ (ao_PV ρ y) 0 0) 0 0 34 [some (.ref (Γ.2.2.2 + r0)), some (.ref (Γ.2.2.2 + r1)), some (.int x2)] [] (M, ρ)) := by
  intro n
  induction n with
  | zero => exact ⟨fun _ _ _ _ h => ao_no h, fun _ _ _ _ _ h => ao_no h, fun _ _ _ _ _ h => ao_no h⟩
  | succ n ih =>
    refine ⟨?_, ?_, ?_⟩
    · intro r0 r1 M y h
      replace h := ao_ifT h rfl
      refine ao_iconst (v := 0) dX2_giveBack_0 (by decide) ?_
      refine ao_istore_n 2 (lo' := [some (.ref (Γ.2.2.2 + r0)), some (.ref (Γ.2.2.2 + r1)), some (.int (0 : Int32))]) dX2_giveBack_1 rfl (Nat.le_of_ble_eq_true rfl) rfl ?_
      exact ih.2.1 r0 r1 (0 : Int32) M _ h
    · intro r0 r1 x2 M y h
      replace h := ao_ifF h (by decide)
      replace h := ao_ifT h rfl
      refine ao_iload_n 2 dX2_giveBack_2 rfl rfl ?_
      refine ao_bipush (v := 26) dX2_giveBack_3 (by decide) ?_
      refine ao_icmp_ge 40 dX2_giveBack_5 (by decide) (fun c1 => ?_) (fun c1 => ?_)
      · replace h := ao_ifT h c1
        cases h
        exact ao_return dX2_giveBack_40 rfl ⟨rfl, rfl⟩
      · replace h := ao_ifF h c1
        refine ao_aload_n 1 dX2_giveBack_8 rfl rfl ?_
        obtain ⟨hk2, h⟩ := ao_some h
        refine an_getI r1 3 6 (q := (RX3, TX3, 12)) dX2_giveBack_9 rfl hk2 (Nat.le_of_ble_eq_true rfl) rfl lf_X2_304 ?_
        refine ao_iload_n 2 dX2_giveBack_12 rfl rfl ?_
        refine ao_ishr dX2_giveBack_13 ?_
        refine ao_iconst (v := 1) dX2_giveBack_14 (by decide) ?_
        refine ao_iand dX2_giveBack_15 ?_
        refine ao_if_eq 34 dX2_giveBack_16 (by decide) (fun c3 => ?_) (fun c3 => ?_)
        · replace h := ao_ifT h c3
          exact ih.2.2 r0 r1 x2 M _ h
        · replace h := ao_ifF h c3
          refine ao_aload_n 0 dX2_giveBack_19 rfl rfl ?_
          obtain ⟨hk4, h⟩ := ao_some h
          obtain ⟨j5, hj5, h⟩ := ao_bind h
          refine an_getR r0 2 0 (q := (RX2, TX2, 7)) dX2_giveBack_20 rfl hk4 (Nat.le_of_ble_eq_true rfl) rfl lf_X2_12 hj5 ?_
          obtain ⟨hk6, h⟩ := ao_some h
          obtain ⟨j7, hj7, h⟩ := ao_bind h
          refine an_getR j5 5 0 (q := (RX5, TX5, 11)) dX2_giveBack_23 rfl hk6 (Nat.le_of_ble_eq_true rfl) rfl lf_X2_188 hj7 ?_
          refine ao_iload_n 2 dX2_giveBack_26 rfl rfl ?_
          refine ao_aload_n 1 dX2_giveBack_27 rfl rfl ?_
          obtain ⟨j8, hj8, h⟩ := ao_bind h
          refine an_getR r1 3 5 (q := (RX3, TX3, 12)) dX2_giveBack_28 rfl hk2 (Nat.le_of_ble_eq_true rfl) rfl lf_X2_221 hj8 ?_
          refine ao_iload_n 2 dX2_giveBack_31 rfl rfl ?_
          obtain ⟨hk9, h⟩ := ao_some h
          obtain ⟨hb10, h⟩ := ao_some h
          refine an_iaload j8 dX2_giveBack_32 hk9 hb10 ?_
          obtain ⟨hk11, h⟩ := ao_some h
          obtain ⟨hb12, h⟩ := ao_some h
          refine an_iastore j7 dX2_giveBack_33 hk11 hb12 (fun M13 hM13 => ?_)
          replace h := ao_letD h hM13
          exact ih.2.2 r0 r1 x2 M13 _ h
    · intro r0 r1 x2 M y h
      replace h := ao_ifF h (by decide)
      replace h := ao_ifF h (by decide)
      replace h := ao_ifT h rfl
      obtain ⟨v14, hv14⟩ : ∃ z : Int32, z = x2 + (1 : Int32) := ⟨_, rfl⟩
      replace h := ao_letD h hv14
      refine ao_iinc 2 (v := v14) (lo' := [some (.ref (Γ.2.2.2 + r0)), some (.ref (Γ.2.2.2 + r1)), some (.int v14)]) dX2_giveBack_34 rfl (by rw [hv14]; rfl) (Nat.le_of_ble_eq_true rfl) rfl ?_
      refine ao_goto 2 dX2_giveBack_37 (by decide) ?_
      exact ih.2.1 r0 r1 v14 M _ h
set_option maxRecDepth 100000 in
set_option maxHeartbeats 4000000 in
theorem aX2_giveBack {Γ : ao_C} (d : Nat) (hd : 0 ≤ d) (n : Nat) (r0 : Nat) (r1 : Nat) (M : ao_M) (ρ : ao_H) {y : ao_M} (h : gX2_giveBack n r0 r1 M ρ = some y) : ao_A Γ uX2_giveBack d 0 0 [.ref (Γ.2.2.2 + r0), .ref (Γ.2.2.2 + r1)] (M, ρ) (ao_PV ρ y) := by
  refine ao_of (by decide) (ao_cat1 (Nat.le_of_ble_eq_true rfl)) (Nat.le_of_ble_eq_true rfl) ?_
  show ao_W Γ uX2_giveBack (ao_rm d 0 0) (ao_Q Γ (ao_PV ρ y) 0 0) 0 0 0 [some (.ref (Γ.2.2.2 + r0)), some (.ref (Γ.2.2.2 + r1)), none] [] (M, ρ)
  exact (wX2_giveBack d hd n).1 r0 r1 M y h

abbrev uX2_isBusy : ao_Mi := (yX2_isBusy, cX2_isBusy, 2, (some .boolean), [])
def fX2_isBusy : Nat → Nat → Nat → Nat → Int32 → Int32 →  ao_M → ao_H → Option (Int32 × ao_M)
  | 0, _, _, _, _, _, _, _ => none
  | n + 1, pc, r0, r1, s0, s1, M, ρ =>
    if pc = 0 then
      if ρ.2.1 r0 = 12 then
      if (M r0 5) = (4 : Int32) then
        (gX2_howManyAre n r0 (2 : Int32) M ρ).bind fun p3 =>
        if ρ.2.1 r1 = 17 then
        if (p3.2 r1 2) = (2 : Int32) then
          fX2_isBusy n 26 r0 r1 (1 : Int32) p3.1 p3.2 ρ
        else
          fX2_isBusy n 26 r0 r1 (0 : Int32) p3.1 p3.2 ρ
        else none
      else
        some ((0 : Int32), M)
      else none
    else if pc = 26 then
      if s1 ≤ s0 then
        some ((0 : Int32), M)
      else
        some ((1 : Int32), M)
    else none
def gX2_isBusy (n : Nat) (r0 : Nat) (r1 : Nat) (M : ao_M) (ρ : ao_H) : Option (Int32 × ao_M) := fX2_isBusy n 0 r0 r1 0 0 M ρ
set_option maxRecDepth 100000 in
set_option maxHeartbeats 4000000 in
theorem wX2_isBusy {Γ : ao_C} {ρ : ao_H} (d : Nat) (hd : 1 ≤ d) : ∀ n : Nat, (∀ (r0 : Nat) (r1 : Nat) (M : ao_M) (y : Int32 × ao_M), fX2_isBusy n 0 r0 r1 0 0 M ρ = some y → ao_W Γ uX2_isBusy (ao_rm d 0 0) (ao_Q Γ (ao_PI ρ y) 0 0) 0 0 0 [some (.ref (Γ.2.2.2 + r0)), some (.ref (Γ.2.2.2 + r1))] [] (M, ρ)) ∧ (∀ (r0 : Nat) (r1 : Nat) (s0 : Int32) (s1 : Int32) (M : ao_M) (y : Int32 × ao_M), fX2_isBusy n 26 r0 r1 s0 s1 M ρ = some y → ao_W Γ uX2_isBusy (ao_rm d 0 0) (ao_Q Γ (ao_PI ρ y) 0 0) 0 0 26 [some (.ref (Γ.2.2.2 + r0)), some (.ref (Γ.2.2.2 + r1))] [.int s0, .int s1] (M, ρ)) := by
  intro n
  induction n with
  | zero => exact ⟨fun _ _ _ _ h => ao_no h, fun _ _ _ _ _ _ h => ao_no h⟩
  | succ n ih =>
    refine ⟨?_, ?_⟩
    · intro r0 r1 M y h
      replace h := ao_ifT h rfl
      refine ao_aload_n 0 dX2_isBusy_0 rfl rfl ?_
      obtain ⟨hk1, h⟩ := ao_some h
      refine an_getI r0 2 5 (q := (RX2, TX2, 7)) dX2_isBusy_1 rfl hk1 (Nat.le_of_ble_eq_true rfl) rfl lf_X2_41 ?_
      refine ao_iconst (v := 4) dX2_isBusy_4 (by decide) ?_
      refine ao_icmp_ne 33 dX2_isBusy_5 (by decide) (fun c2 => ?_) (fun c2 => ?_)
      · replace h := ao_ifF h c2
        refine ao_iconst (v := 0) dX2_isBusy_33 (by decide) ?_
        cases h
        exact ao_ireturn dX2_isBusy_34 rfl rfl ⟨rfl, rfl⟩
      · replace h := ao_ifT h c2
        refine ao_aload_n 0 dX2_isBusy_8 rfl rfl ?_
        refine ao_iconst (v := 2) dX2_isBusy_9 (by decide) ?_
        obtain ⟨p3, hp3, h⟩ := ao_bind h
        refine an_callVi r0 2 (q := (RX2, TX2, 7)) [.int (2 : Int32)] (aX2_howManyAre (d - 1) (by omega) _ r0 (2 : Int32) M ρ hp3) dX2_isBusy_10 lc_X2_65 li_X2_howManyAre ls_X2_howManyAre rfl hk1 rfl rfl (Nat.le_of_ble_eq_true rfl) (ao_hR (by omega) (by decide)) ?_
        refine ao_aload_n 1 dX2_isBusy_13 rfl rfl ?_
        obtain ⟨hk4, h⟩ := ao_some h
        refine an_getI r1 7 2 (q := (RX7, TX7, 20)) dX2_isBusy_14 rfl hk4 (Nat.le_of_ble_eq_true rfl) rfl lf_X2_55 ?_
        refine ao_iconst (v := 2) dX2_isBusy_17 (by decide) ?_
        refine ao_icmp_ne 25 dX2_isBusy_18 (by decide) (fun c5 => ?_) (fun c5 => ?_)
        · replace h := ao_ifF h c5
          refine ao_iconst (v := 0) dX2_isBusy_25 (by decide) ?_
          exact ih.2 r0 r1 (0 : Int32) p3.1 p3.2 _ h
        · replace h := ao_ifT h c5
          refine ao_iconst (v := 1) dX2_isBusy_21 (by decide) ?_
          refine ao_goto 26 dX2_isBusy_22 (by decide) ?_
          exact ih.2 r0 r1 (1 : Int32) p3.1 p3.2 _ h
    · intro r0 r1 s0 s1 M y h
      replace h := ao_ifF h (by decide)
      replace h := ao_ifT h rfl
      refine ao_icmp_le 33 dX2_isBusy_26 (by decide) (fun c6 => ?_) (fun c6 => ?_)
      · replace h := ao_ifT h c6
        refine ao_iconst (v := 0) dX2_isBusy_33 (by decide) ?_
        cases h
        exact ao_ireturn dX2_isBusy_34 rfl rfl ⟨rfl, rfl⟩
      · replace h := ao_ifF h c6
        refine ao_iconst (v := 1) dX2_isBusy_29 (by decide) ?_
        refine ao_goto 34 dX2_isBusy_30 (by decide) ?_
        cases h
        exact ao_ireturn dX2_isBusy_34 rfl rfl ⟨rfl, rfl⟩
set_option maxRecDepth 100000 in
set_option maxHeartbeats 4000000 in
theorem aX2_isBusy {Γ : ao_C} (d : Nat) (hd : 1 ≤ d) (n : Nat) (r0 : Nat) (r1 : Nat) (M : ao_M) (ρ : ao_H) {y : Int32 × ao_M} (h : gX2_isBusy n r0 r1 M ρ = some y) : ao_A Γ uX2_isBusy d 0 0 [.ref (Γ.2.2.2 + r0), .ref (Γ.2.2.2 + r1)] (M, ρ) (ao_PI ρ y) := by
  refine ao_of (by decide) (ao_cat1 (Nat.le_of_ble_eq_true rfl)) (Nat.le_of_ble_eq_true rfl) ?_
  show ao_W Γ uX2_isBusy (ao_rm d 0 0) (ao_Q Γ (ao_PI ρ y) 0 0) 0 0 0 [some (.ref (Γ.2.2.2 + r0)), some (.ref (Γ.2.2.2 + r1))] [] (M, ρ)
  exact (wX2_isBusy d hd n).1 r0 r1 M y h

abbrev uX3_init : ao_Mi := (yX3_init, cX3_init, 1, none, [])
def fX3_init : Nat → Nat → Nat → Nat → Nat →  ao_M → ao_H → Option (ao_S)
  | 0, _, _, _, _, _, _ => none
  | n + 1, pc, r0, q0, q1, M, ρ =>
    if pc = 0 then
      (ρ.2.2.2.1).bind fun n1 =>
      if ¬ (26 : Int32) < 0 ∧ (26 : Int32).toNatClampNeg * 8 ≤ 536870912 then
      fX3_init n 9 r0 n1 r0 (ao_zr M n1) (ao_nw ρ n1 0 (26 : Int32).toNatClampNeg (26 : Int32).toNatClampNeg)
      else none
    else if pc = 9 then
      if ρ.2.1 q1 = 13 then
      fX3_init n 12 r0 0 0 M (ao_r ρ q1 0 (some q0))
      else none
    else if pc = 12 then
      (ρ.2.2.2.1).bind fun n4 =>
      if ¬ (26 : Int32) < 0 ∧ (26 : Int32).toNatClampNeg * 8 ≤ 536870912 then
      fX3_init n 17 r0 n4 r0 (ao_zr M n4) (ao_nw ρ n4 0 (26 : Int32).toNatClampNeg (26 : Int32).toNatClampNeg)
      else none
    else if pc = 17 then
      if ρ.2.1 q1 = 13 then
      fX3_init n 20 r0 0 0 M (ao_r ρ q1 1 (some q0))
      else none
    else if pc = 20 then
      (ρ.2.2.2.1).bind fun n7 =>
      if ¬ (26 : Int32) < 0 ∧ (26 : Int32).toNatClampNeg * 8 ≤ 536870912 then
      fX3_init n 25 r0 n7 r0 (ao_zr M n7) (ao_nw ρ n7 0 (26 : Int32).toNatClampNeg (26 : Int32).toNatClampNeg)
      else none
    else if pc = 25 then
      if ρ.2.1 q1 = 13 then
      fX3_init n 28 r0 0 0 M (ao_r ρ q1 2 (some q0))
      else none
    else if pc = 28 then
      (ρ.2.2.2.1).bind fun n10 =>
      if ¬ (26 : Int32) < 0 ∧ (26 : Int32).toNatClampNeg * 8 ≤ 536870912 then
      fX3_init n 33 r0 n10 r0 (ao_zr M n10) (ao_nw ρ n10 0 (26 : Int32).toNatClampNeg (26 : Int32).toNatClampNeg)
      else none
    else if pc = 33 then
      if ρ.2.1 q1 = 13 then
      fX3_init n 36 r0 0 0 M (ao_r ρ q1 5 (some q0))
      else none
    else if pc = 36 then
      (ρ.2.2.2.1).bind fun n13 =>
      if ¬ (26 : Int32) < 0 ∧ (26 : Int32).toNatClampNeg * 8 ≤ 536870912 then
      fX3_init n 41 r0 n13 r0 (ao_zr M n13) (ao_nw ρ n13 0 (26 : Int32).toNatClampNeg (26 : Int32).toNatClampNeg)
      else none
    else if pc = 41 then
      if ρ.2.1 q1 = 13 then
      fX3_init n 44 r0 0 0 M (ao_r ρ q1 7 (some q0))
      else none
    else if pc = 44 then
      some (M, ρ)
    else none
def gX3_init (n : Nat) (r0 : Nat) (M : ao_M) (ρ : ao_H) : Option (ao_S) := fX3_init n 0 r0 0 0 M ρ
set_option maxRecDepth 100000 in
set_option maxHeartbeats 4000000 in
theorem mX3_init : ∀ n : Nat, (∀ (r0 : Nat) (M : ao_M) (ρ : ao_H) (y : ao_S), fX3_init n 0 r0 0 0 M ρ = some y → ao_le ρ y.2) ∧ (∀ (r0 : Nat) (q0 : Nat) (q1 : Nat) (M : ao_M) (ρ : ao_H) (y : ao_S), fX3_init n 9 r0 q0 q1 M ρ = some y → ao_le ρ y.2) ∧ (∀ (r0 : Nat) (M : ao_M) (ρ : ao_H) (y : ao_S), fX3_init n 12 r0 0 0 M ρ = some y → ao_le ρ y.2) ∧ (∀ (r0 : Nat) (q0 : Nat) (q1 : Nat) (M : ao_M) (ρ : ao_H) (y : ao_S), fX3_init n 17 r0 q0 q1 M ρ = some y → ao_le ρ y.2) ∧ (∀ (r0 : Nat) (M : ao_M) (ρ : ao_H) (y : ao_S), fX3_init n 20 r0 0 0 M ρ = some y → ao_le ρ y.2) ∧ (∀ (r0 : Nat) (q0 : Nat) (q1 : Nat) (M : ao_M) (ρ : ao_H) (y : ao_S), fX3_init n 25 r0 q0 q1 M ρ = some y → ao_le ρ y.2) ∧ (∀ (r0 : Nat) (M : ao_M) (ρ : ao_H) (y : ao_S), fX3_init n 28 r0 0 0 M ρ = some y → ao_le ρ y.2) ∧ (∀ (r0 : Nat) (q0 : Nat) (q1 : Nat) (M : ao_M) (ρ : ao_H) (y : ao_S), fX3_init n 33 r0 q0 q1 M ρ = some y → ao_le ρ y.2) ∧ (∀ (r0 : Nat) (M : ao_M) (ρ : ao_H) (y : ao_S), fX3_init n 36 r0 0 0 M ρ = some y → ao_le ρ y.2) ∧ (∀ (r0 : Nat) (q0 : Nat) (q1 : Nat) (M : ao_M) (ρ : ao_H) (y : ao_S), fX3_init n 41 r0 q0 q1 M ρ = some y → ao_le ρ y.2) ∧ (∀ (r0 : Nat) (M : ao_M) (ρ : ao_H) (y : ao_S), fX3_init n 44 r0 0 0 M ρ = some y → ao_le ρ y.2) := by
  intro n
  induction n with
  | zero => exact ⟨fun _ _ _ _ h => ao_no h, fun _ _ _ _ _ _ h => ao_no h, fun _ _ _ _ h => ao_no h, fun _ _ _ _ _ _ h => ao_no h, fun _ _ _ _ h => ao_no h, fun _ _ _ _ _ _ h => ao_no h, fun _ _ _ _ h => ao_no h, fun _ _ _ _ _ _ h => ao_no h, fun _ _ _ _ h => ao_no h, fun _ _ _ _ _ _ h => ao_no h, fun _ _ _ _ h => ao_no h⟩
  | succ n ih =>
    refine ⟨?_, ?_, ?_, ?_, ?_, ?_, ?_, ?_, ?_, ?_, ?_⟩
    · intro r0 M ρ y h
      replace h := ao_ifT h rfl
      obtain ⟨n1, hn1, h⟩ := ao_bind h
      obtain ⟨-, h⟩ := ao_some h
      exact ao_le_tr (ao_le_nw _ _ _ _ _) (ih.2.1 r0 n1 r0 (ao_zr M n1) (ao_nw ρ n1 0 (26 : Int32).toNatClampNeg (26 : Int32).toNatClampNeg) _ h)
    · intro r0 q0 q1 M ρ y h
      replace h := ao_ifF h (by decide)
      replace h := ao_ifT h rfl
      obtain ⟨-, h⟩ := ao_some h
      exact ao_le_tr (ao_le_r _ _ _ _) (ih.2.2.1 r0 M (ao_r ρ q1 0 (some q0)) _ h)
    · intro r0 M ρ y h
      replace h := ao_ifF h (by decide)
      replace h := ao_ifF h (by decide)
      replace h := ao_ifT h rfl
      obtain ⟨n4, hn4, h⟩ := ao_bind h
      obtain ⟨-, h⟩ := ao_some h
      exact ao_le_tr (ao_le_nw _ _ _ _ _) (ih.2.2.2.1 r0 n4 r0 (ao_zr M n4) (ao_nw ρ n4 0 (26 : Int32).toNatClampNeg (26 : Int32).toNatClampNeg) _ h)
    · intro r0 q0 q1 M ρ y h
      replace h := ao_ifF h (by decide)
      replace h := ao_ifF h (by decide)
      replace h := ao_ifF h (by decide)
      replace h := ao_ifT h rfl
      obtain ⟨-, h⟩ := ao_some h
      exact ao_le_tr (ao_le_r _ _ _ _) (ih.2.2.2.2.1 r0 M (ao_r ρ q1 1 (some q0)) _ h)
    · intro r0 M ρ y h
      replace h := ao_ifF h (by decide)
      replace h := ao_ifF h (by decide)
      replace h := ao_ifF h (by decide)
      replace h := ao_ifF h (by decide)
      replace h := ao_ifT h rfl
      obtain ⟨n7, hn7, h⟩ := ao_bind h
      obtain ⟨-, h⟩ := ao_some h
      exact ao_le_tr (ao_le_nw _ _ _ _ _) (ih.2.2.2.2.2.1 r0 n7 r0 (ao_zr M n7) (ao_nw ρ n7 0 (26 : Int32).toNatClampNeg (26 : Int32).toNatClampNeg) _ h)
    · intro r0 q0 q1 M ρ y h
      replace h := ao_ifF h (by decide)
      replace h := ao_ifF h (by decide)
      replace h := ao_ifF h (by decide)
      replace h := ao_ifF h (by decide)
      replace h := ao_ifF h (by decide)
      replace h := ao_ifT h rfl
      obtain ⟨-, h⟩ := ao_some h
      exact ao_le_tr (ao_le_r _ _ _ _) (ih.2.2.2.2.2.2.1 r0 M (ao_r ρ q1 2 (some q0)) _ h)
    · intro r0 M ρ y h
      replace h := ao_ifF h (by decide)
      replace h := ao_ifF h (by decide)
      replace h := ao_ifF h (by decide)
      replace h := ao_ifF h (by decide)
      replace h := ao_ifF h (by decide)
      replace h := ao_ifF h (by decide)
      replace h := ao_ifT h rfl
      obtain ⟨n10, hn10, h⟩ := ao_bind h
      obtain ⟨-, h⟩ := ao_some h
      exact ao_le_tr (ao_le_nw _ _ _ _ _) (ih.2.2.2.2.2.2.2.1 r0 n10 r0 (ao_zr M n10) (ao_nw ρ n10 0 (26 : Int32).toNatClampNeg (26 : Int32).toNatClampNeg) _ h)
    · intro r0 q0 q1 M ρ y h
      replace h := ao_ifF h (by decide)
      replace h := ao_ifF h (by decide)
      replace h := ao_ifF h (by decide)
      replace h := ao_ifF h (by decide)
      replace h := ao_ifF h (by decide)
      replace h := ao_ifF h (by decide)
      replace h := ao_ifF h (by decide)
      replace h := ao_ifT h rfl
      obtain ⟨-, h⟩ := ao_some h
      exact ao_le_tr (ao_le_r _ _ _ _) (ih.2.2.2.2.2.2.2.2.1 r0 M (ao_r ρ q1 5 (some q0)) _ h)
    · intro r0 M ρ y h
      replace h := ao_ifF h (by decide)
      replace h := ao_ifF h (by decide)
      replace h := ao_ifF h (by decide)
      replace h := ao_ifF h (by decide)
      replace h := ao_ifF h (by decide)
      replace h := ao_ifF h (by decide)
      replace h := ao_ifF h (by decide)
      replace h := ao_ifF h (by decide)
      replace h := ao_ifT h rfl
      obtain ⟨n13, hn13, h⟩ := ao_bind h
      obtain ⟨-, h⟩ := ao_some h
      exact ao_le_tr (ao_le_nw _ _ _ _ _) (ih.2.2.2.2.2.2.2.2.2.1 r0 n13 r0 (ao_zr M n13) (ao_nw ρ n13 0 (26 : Int32).toNatClampNeg (26 : Int32).toNatClampNeg) _ h)
    · intro r0 q0 q1 M ρ y h
      replace h := ao_ifF h (by decide)
      replace h := ao_ifF h (by decide)
      replace h := ao_ifF h (by decide)
      replace h := ao_ifF h (by decide)
      replace h := ao_ifF h (by decide)
      replace h := ao_ifF h (by decide)
      replace h := ao_ifF h (by decide)
      replace h := ao_ifF h (by decide)
      replace h := ao_ifF h (by decide)
      replace h := ao_ifT h rfl
      obtain ⟨-, h⟩ := ao_some h
      exact ao_le_tr (ao_le_r _ _ _ _) (ih.2.2.2.2.2.2.2.2.2.2 r0 M (ao_r ρ q1 7 (some q0)) _ h)
    · intro r0 M ρ y h
      replace h := ao_ifF h (by decide)
      replace h := ao_ifF h (by decide)
      replace h := ao_ifF h (by decide)
      replace h := ao_ifF h (by decide)
      replace h := ao_ifF h (by decide)
      replace h := ao_ifF h (by decide)
      replace h := ao_ifF h (by decide)
      replace h := ao_ifF h (by decide)
      replace h := ao_ifF h (by decide)
      replace h := ao_ifF h (by decide)
      replace h := ao_ifT h rfl
      cases h
      exact ao_le_rf _
set_option maxRecDepth 100000 in
set_option maxHeartbeats 4000000 in
theorem wX3_init {Γ : ao_C} (d : Nat) (hd : 1 ≤ d) (MC MS : Nat) : ∀ n : Nat, (∀ (r0 : Nat) (M : ao_M) (ρ : ao_H) (y : ao_S), fX3_init n 0 r0 0 0 M ρ = some y → ao_W Γ uX3_init (ao_rm d MC MS) (ao_Q Γ (ao_QV y) MC MS) (ao_dc ρ y.2) (ao_ds ρ y.2) 0 [some (.ref (Γ.2.2.2 + r0))] [] (M, ρ)) ∧ (∀ (r0 : Nat) (q0 : Nat) (q1 : Nat) (M : ao_M) (ρ : ao_H) (y : ao_S), fX3_init n 9 r0 q0 q1 M ρ = some y → ao_W Γ uX3_init (ao_rm d MC MS) (ao_Q Γ (ao_QV y) MC MS) (ao_dc ρ y.2) (ao_ds ρ y.2) 9 [some (.ref (Γ.2.2.2 + r0))] [.ref (Γ.2.2.2 + q0), .ref (Γ.2.2.2 + q1)] (M, ρ)) ∧ (∀ (r0 : Nat) (M : ao_M) (ρ : ao_H) (y : ao_S), fX3_init n 12 r0 0 0 M ρ = some y → ao_W Γ uX3_init (ao_rm d MC MS) (ao_Q Γ (ao_QV y) MC MS) (ao_dc ρ y.2) (ao_ds ρ y.2) 12 [some (.ref (Γ.2.2.2 + r0))] [] (M, ρ)) ∧ (∀ (r0 : Nat) (q0 : Nat) (q1 : Nat) (M : ao_M) (ρ : ao_H) (y : ao_S), fX3_init n 17 r0 q0 q1 M ρ = some y → ao_W Γ uX3_init (ao_rm d MC MS) (ao_Q Γ (ao_QV y) MC MS) (ao_dc ρ y.2) (ao_ds ρ y.2) 17 [some (.ref (Γ.2.2.2 + r0))] [.ref (Γ.2.2.2 + q0), .ref (Γ.2.2.2 + q1)] (M, ρ)) ∧ (∀ (r0 : Nat) (M : ao_M) (ρ : ao_H) (y : ao_S), fX3_init n 20 r0 0 0 M ρ = some y → ao_W Γ uX3_init (ao_rm d MC MS) (ao_Q Γ (ao_QV y) MC MS) (ao_dc ρ y.2) (ao_ds ρ y.2) 20 [some (.ref (Γ.2.2.2 + r0))] [] (M, ρ)) ∧ (∀ (r0 : Nat) (q0 : Nat) (q1 : Nat) (M : ao_M) (ρ : ao_H) (y : ao_S), fX3_init n 25 r0 q0 q1 M ρ = some y → ao_W Γ uX3_init (ao_rm d MC MS) (ao_Q Γ (ao_QV y) MC MS) (ao_dc ρ y.2) (ao_ds ρ y.2) 25 [some (.ref (Γ.2.2.2 + r0))] [.ref (Γ.2.2.2 + q0), .ref (Γ.2.2.2 + q1)] (M, ρ)) ∧ (∀ (r0 : Nat) (M : ao_M) (ρ : ao_H) (y : ao_S), fX3_init n 28 r0 0 0 M ρ = some y → ao_W Γ uX3_init (ao_rm d MC MS) (ao_Q Γ (ao_QV y) MC MS) (ao_dc ρ y.2) (ao_ds ρ y.2) 28 [some (.ref (Γ.2.2.2 + r0))] [] (M, ρ)) ∧ (∀ (r0 : Nat) (q0 : Nat) (q1 : Nat) (M : ao_M) (ρ : ao_H) (y : ao_S), fX3_init n 33 r0 q0 q1 M ρ = some y → ao_W Γ uX3_init (ao_rm d MC MS) (ao_Q Γ (ao_QV y) MC MS) (ao_dc ρ y.2) (ao_ds ρ y.2) 33 [some (.ref (Γ.2.2.2 + r0))] [.ref (Γ.2.2.2 + q0), .ref (Γ.2.2.2 + q1)] (M, ρ)) ∧ (∀ (r0 : Nat) (M : ao_M) (ρ : ao_H) (y : ao_S), fX3_init n 36 r0 0 0 M ρ = some y → ao_W Γ uX3_init (ao_rm d MC MS) (ao_Q Γ (ao_QV y) MC MS) (ao_dc ρ y.2) (ao_ds ρ y.2) 36 [some (.ref (Γ.2.2.2 + r0))] [] (M, ρ)) ∧ (∀ (r0 : Nat) (q0 : Nat) (q1 : Nat) (M : ao_M) (ρ : ao_H) (y : ao_S), fX3_init n 41 r0 q0 q1 M ρ = some y → ao_W Γ uX3_init (ao_rm d MC MS) (ao_Q Γ (ao_QV y) MC MS) (ao_dc ρ y.2) (ao_ds ρ y.2) 41 [some (.ref (Γ.2.2.2 + r0))] [.ref (Γ.2.2.2 + q0), .ref (Γ.2.2.2 + q1)] (M, ρ)) ∧ (∀ (r0 : Nat) (M : ao_M) (ρ : ao_H) (y : ao_S), fX3_init n 44 r0 0 0 M ρ = some y → ao_W Γ uX3_init (ao_rm d MC MS) (ao_Q Γ (ao_QV y) MC MS) (ao_dc ρ y.2) (ao_ds ρ y.2) 44 [some (.ref (Γ.2.2.2 + r0))] [] (M, ρ)) := by
  intro n
  induction n with
  | zero => exact ⟨fun _ _ _ _ h => ao_no h, fun _ _ _ _ _ _ h => ao_no h, fun _ _ _ _ h => ao_no h, fun _ _ _ _ _ _ h => ao_no h, fun _ _ _ _ h => ao_no h, fun _ _ _ _ _ _ h => ao_no h, fun _ _ _ _ h => ao_no h, fun _ _ _ _ _ _ h => ao_no h, fun _ _ _ _ h => ao_no h, fun _ _ _ _ _ _ h => ao_no h, fun _ _ _ _ h => ao_no h⟩
  | succ n ih =>
    refine ⟨?_, ?_, ?_, ?_, ?_, ?_, ?_, ?_, ?_, ?_, ?_⟩
    · intro r0 M ρ y h
      replace h := ao_ifT h rfl
      refine ao_aload_n 0 dX3_init_0 rfl rfl ?_
      refine bi_obj dX3_init_1 loi_X3_3 (Nat.le_of_ble_eq_true rfl) (ao_cpR (by omega)) ?_
      refine ao_aload_n 0 dX3_init_4 rfl rfl ?_
      refine ao_bipush (v := 26) dX3_init_5 (by decide) ?_
      obtain ⟨n1, hn1, h⟩ := ao_bind h
      obtain ⟨hb2, h⟩ := ao_some h
      refine ba_newa n1 0 dX3_init_7 rfl (by decide) hn1 lna_0 hb2.1 hb2.2 (ao_dc_nw ((mX3_init n).2.1 r0 n1 r0 (ao_zr M n1) (ao_nw ρ n1 0 (26 : Int32).toNatClampNeg (26 : Int32).toNatClampNeg) _ h)) ?_
      exact ih.2.1 r0 n1 r0 (ao_zr M n1) (ao_nw ρ n1 0 (26 : Int32).toNatClampNeg (26 : Int32).toNatClampNeg) _ h
    · intro r0 q0 q1 M ρ y h
      replace h := ao_ifF h (by decide)
      replace h := ao_ifT h rfl
      obtain ⟨hk3, h⟩ := ao_some h
      refine ba_putR q1 3 0 (q := (RX3, TX3, 12)) dX3_init_9 rfl hk3 (Nat.le_of_ble_eq_true rfl) lf_X3_9 (Or.inr ⟨rfl, rfl⟩) rfl rfl rfl ?_
      exact ih.2.2.1 r0 M (ao_r ρ q1 0 (some q0)) _ h
    · intro r0 M ρ y h
      replace h := ao_ifF h (by decide)
      replace h := ao_ifF h (by decide)
      replace h := ao_ifT h rfl
      refine ao_aload_n 0 dX3_init_12 rfl rfl ?_
      refine ao_bipush (v := 26) dX3_init_13 (by decide) ?_
      obtain ⟨n4, hn4, h⟩ := ao_bind h
      obtain ⟨hb5, h⟩ := ao_some h
      refine ba_newa n4 0 dX3_init_15 rfl (by decide) hn4 lna_0 hb5.1 hb5.2 (ao_dc_nw ((mX3_init n).2.2.2.1 r0 n4 r0 (ao_zr M n4) (ao_nw ρ n4 0 (26 : Int32).toNatClampNeg (26 : Int32).toNatClampNeg) _ h)) ?_
      exact ih.2.2.2.1 r0 n4 r0 (ao_zr M n4) (ao_nw ρ n4 0 (26 : Int32).toNatClampNeg (26 : Int32).toNatClampNeg) _ h
    · intro r0 q0 q1 M ρ y h
      replace h := ao_ifF h (by decide)
      replace h := ao_ifF h (by decide)
      replace h := ao_ifF h (by decide)
      replace h := ao_ifT h rfl
      obtain ⟨hk6, h⟩ := ao_some h
      refine ba_putR q1 3 1 (q := (RX3, TX3, 12)) dX3_init_17 rfl hk6 (Nat.le_of_ble_eq_true rfl) lf_X3_15 (Or.inr ⟨rfl, rfl⟩) rfl rfl rfl ?_
      exact ih.2.2.2.2.1 r0 M (ao_r ρ q1 1 (some q0)) _ h
    · intro r0 M ρ y h
      replace h := ao_ifF h (by decide)
      replace h := ao_ifF h (by decide)
      replace h := ao_ifF h (by decide)
      replace h := ao_ifF h (by decide)
      replace h := ao_ifT h rfl
      refine ao_aload_n 0 dX3_init_20 rfl rfl ?_
      refine ao_bipush (v := 26) dX3_init_21 (by decide) ?_
      obtain ⟨n7, hn7, h⟩ := ao_bind h
      obtain ⟨hb8, h⟩ := ao_some h
      refine ba_newa n7 0 dX3_init_23 rfl (by decide) hn7 lna_0 hb8.1 hb8.2 (ao_dc_nw ((mX3_init n).2.2.2.2.2.1 r0 n7 r0 (ao_zr M n7) (ao_nw ρ n7 0 (26 : Int32).toNatClampNeg (26 : Int32).toNatClampNeg) _ h)) ?_
      exact ih.2.2.2.2.2.1 r0 n7 r0 (ao_zr M n7) (ao_nw ρ n7 0 (26 : Int32).toNatClampNeg (26 : Int32).toNatClampNeg) _ h
    · intro r0 q0 q1 M ρ y h
      replace h := ao_ifF h (by decide)
      replace h := ao_ifF h (by decide)
      replace h := ao_ifF h (by decide)
      replace h := ao_ifF h (by decide)
      replace h := ao_ifF h (by decide)
      replace h := ao_ifT h rfl
      obtain ⟨hk9, h⟩ := ao_some h
      refine ba_putR q1 3 2 (q := (RX3, TX3, 12)) dX3_init_25 rfl hk9 (Nat.le_of_ble_eq_true rfl) lf_X3_18 (Or.inr ⟨rfl, rfl⟩) rfl rfl rfl ?_
      exact ih.2.2.2.2.2.2.1 r0 M (ao_r ρ q1 2 (some q0)) _ h
    · intro r0 M ρ y h
      replace h := ao_ifF h (by decide)
      replace h := ao_ifF h (by decide)
      replace h := ao_ifF h (by decide)
      replace h := ao_ifF h (by decide)
      replace h := ao_ifF h (by decide)
      replace h := ao_ifF h (by decide)
      replace h := ao_ifT h rfl
      refine ao_aload_n 0 dX3_init_28 rfl rfl ?_
      refine ao_bipush (v := 26) dX3_init_29 (by decide) ?_
      obtain ⟨n10, hn10, h⟩ := ao_bind h
      obtain ⟨hb11, h⟩ := ao_some h
      refine ba_newa n10 0 dX3_init_31 rfl (by decide) hn10 lna_0 hb11.1 hb11.2 (ao_dc_nw ((mX3_init n).2.2.2.2.2.2.2.1 r0 n10 r0 (ao_zr M n10) (ao_nw ρ n10 0 (26 : Int32).toNatClampNeg (26 : Int32).toNatClampNeg) _ h)) ?_
      exact ih.2.2.2.2.2.2.2.1 r0 n10 r0 (ao_zr M n10) (ao_nw ρ n10 0 (26 : Int32).toNatClampNeg (26 : Int32).toNatClampNeg) _ h
    · intro r0 q0 q1 M ρ y h
      replace h := ao_ifF h (by decide)
      replace h := ao_ifF h (by decide)
      replace h := ao_ifF h (by decide)
      replace h := ao_ifF h (by decide)
      replace h := ao_ifF h (by decide)
      replace h := ao_ifF h (by decide)
      replace h := ao_ifF h (by decide)
      replace h := ao_ifT h rfl
      obtain ⟨hk12, h⟩ := ao_some h
      refine ba_putR q1 3 5 (q := (RX3, TX3, 12)) dX3_init_33 rfl hk12 (Nat.le_of_ble_eq_true rfl) lf_X3_21 (Or.inr ⟨rfl, rfl⟩) rfl rfl rfl ?_
      exact ih.2.2.2.2.2.2.2.2.1 r0 M (ao_r ρ q1 5 (some q0)) _ h
    · intro r0 M ρ y h
      replace h := ao_ifF h (by decide)
      replace h := ao_ifF h (by decide)
      replace h := ao_ifF h (by decide)
      replace h := ao_ifF h (by decide)
      replace h := ao_ifF h (by decide)
      replace h := ao_ifF h (by decide)
      replace h := ao_ifF h (by decide)
      replace h := ao_ifF h (by decide)
      replace h := ao_ifT h rfl
      refine ao_aload_n 0 dX3_init_36 rfl rfl ?_
      refine ao_bipush (v := 26) dX3_init_37 (by decide) ?_
      obtain ⟨n13, hn13, h⟩ := ao_bind h
      obtain ⟨hb14, h⟩ := ao_some h
      refine ba_newa n13 0 dX3_init_39 rfl (by decide) hn13 lna_0 hb14.1 hb14.2 (ao_dc_nw ((mX3_init n).2.2.2.2.2.2.2.2.2.1 r0 n13 r0 (ao_zr M n13) (ao_nw ρ n13 0 (26 : Int32).toNatClampNeg (26 : Int32).toNatClampNeg) _ h)) ?_
      exact ih.2.2.2.2.2.2.2.2.2.1 r0 n13 r0 (ao_zr M n13) (ao_nw ρ n13 0 (26 : Int32).toNatClampNeg (26 : Int32).toNatClampNeg) _ h
    · intro r0 q0 q1 M ρ y h
      replace h := ao_ifF h (by decide)
      replace h := ao_ifF h (by decide)
      replace h := ao_ifF h (by decide)
      replace h := ao_ifF h (by decide)
      replace h := ao_ifF h (by decide)
      replace h := ao_ifF h (by decide)
      replace h := ao_ifF h (by decide)
      replace h := ao_ifF h (by decide)
      replace h := ao_ifF h (by decide)
      replace h := ao_ifT h rfl
      obtain ⟨hk15, h⟩ := ao_some h
      refine ba_putR q1 3 7 (q := (RX3, TX3, 12)) dX3_init_41 rfl hk15 (Nat.le_of_ble_eq_true rfl) lf_X3_24 (Or.inr ⟨rfl, rfl⟩) rfl rfl rfl ?_
      exact ih.2.2.2.2.2.2.2.2.2.2 r0 M (ao_r ρ q1 7 (some q0)) _ h
    · intro r0 M ρ y h
      replace h := ao_ifF h (by decide)
      replace h := ao_ifF h (by decide)
      replace h := ao_ifF h (by decide)
      replace h := ao_ifF h (by decide)
      replace h := ao_ifF h (by decide)
      replace h := ao_ifF h (by decide)
      replace h := ao_ifF h (by decide)
      replace h := ao_ifF h (by decide)
      replace h := ao_ifF h (by decide)
      replace h := ao_ifF h (by decide)
      replace h := ao_ifT h rfl
      cases h
      exact ao_return dX3_init_44 rfl ⟨rfl, rfl⟩
theorem me_X3_init (n : Nat) (r0 : Nat) (M : ao_M) (ρ : ao_H) {y : ao_S} (h : gX3_init n r0 M ρ = some y) : ao_le ρ y.2 := (mX3_init n).1 r0 M ρ y h
set_option maxRecDepth 100000 in
set_option maxHeartbeats 4000000 in
theorem aX3_init {Γ : ao_C} (d : Nat) (hd : 1 ≤ d) (n : Nat) (r0 : Nat) (M : ao_M) (ρ : ao_H) {y : ao_S} (h : gX3_init n r0 M ρ = some y) : ao_A Γ uX3_init d (ao_dc ρ y.2) (ao_ds ρ y.2) [.ref (Γ.2.2.2 + r0)] (M, ρ) (ao_QV y) := by
  refine ao_of (by decide) (ao_cat1 (Nat.le_of_ble_eq_true rfl)) (Nat.le_of_ble_eq_true rfl) ?_
  show ao_W Γ uX3_init (ao_rm d (ao_dc ρ y.2) (ao_ds ρ y.2)) (ao_Q Γ (ao_QV y) (ao_dc ρ y.2) (ao_ds ρ y.2)) (ao_dc ρ y.2) (ao_ds ρ y.2) 0 [some (.ref (Γ.2.2.2 + r0))] [] (M, ρ)
  exact (wX3_init d hd _ _ n).1 r0 M ρ y h

abbrev uX3_forgetReads : ao_Mi := (yX3_forgetReads, cX3_forgetReads, 1, none, [])
def gX3_forgetReads (r0 : Nat) (M : ao_M) (ρ : ao_H) : Option (ao_M) :=
  if ρ.2.1 r0 = 13 then
  ao_let (ao_u M r0 3 (0 : Int32)) fun M2 =>
  ao_let (ao_u M2 r0 4 (0 : Int32)) fun M3 =>
  some M3
  else none
set_option maxRecDepth 100000 in
set_option maxHeartbeats 4000000 in
theorem aX3_forgetReads {Γ : ao_C} (d : Nat) (hd : 0 ≤ d) (r0 : Nat) (M : ao_M) (ρ : ao_H) {y : ao_M} (h : gX3_forgetReads r0 M ρ = some y) : ao_A Γ uX3_forgetReads d 0 0 [.ref (Γ.2.2.2 + r0)] (M, ρ) (ao_PV ρ y) := by
  refine ao_of (by decide) (ao_cat1 (Nat.le_of_ble_eq_true rfl)) (Nat.le_of_ble_eq_true rfl) ?_
  show ao_W Γ uX3_forgetReads (ao_rm d 0 0) (ao_Q Γ (ao_PV ρ y) 0 0) 0 0 0 [some (.ref (Γ.2.2.2 + r0))] [] (M, ρ)
  unfold gX3_forgetReads at h
  refine ao_aload_n 0 dX3_forgetReads_0 rfl rfl ?_
  refine ao_iconst (v := 0) dX3_forgetReads_1 (by decide) ?_
  obtain ⟨hk1, h⟩ := ao_some h
  refine an_putI r0 3 3 (q := (RX3, TX3, 12)) dX3_forgetReads_2 rfl hk1 (Nat.le_of_ble_eq_true rfl) lf_X3_27 rfl rfl rfl rfl (fun M2 hM2 => ?_)
  replace h := ao_letD h hM2
  refine ao_aload_n 0 dX3_forgetReads_5 rfl rfl ?_
  refine ao_iconst (v := 0) dX3_forgetReads_6 (by decide) ?_
  refine an_putI r0 3 4 (q := (RX3, TX3, 12)) dX3_forgetReads_7 rfl hk1 (Nat.le_of_ble_eq_true rfl) lf_X3_31 rfl rfl rfl rfl (fun M3 hM3 => ?_)
  replace h := ao_letD h hM3
  cases h
  exact ao_return dX3_forgetReads_10 rfl ⟨rfl, rfl⟩

abbrev uX3_forgetWrites : ao_Mi := (yX3_forgetWrites, cX3_forgetWrites, 1, none, [])
def gX3_forgetWrites (r0 : Nat) (M : ao_M) (ρ : ao_H) : Option (ao_M) :=
  if ρ.2.1 r0 = 13 then
  ao_let (ao_u M r0 6 (0 : Int32)) fun M2 =>
  some M2
  else none
set_option maxRecDepth 100000 in
set_option maxHeartbeats 4000000 in
theorem aX3_forgetWrites {Γ : ao_C} (d : Nat) (hd : 0 ≤ d) (r0 : Nat) (M : ao_M) (ρ : ao_H) {y : ao_M} (h : gX3_forgetWrites r0 M ρ = some y) : ao_A Γ uX3_forgetWrites d 0 0 [.ref (Γ.2.2.2 + r0)] (M, ρ) (ao_PV ρ y) := by
  refine ao_of (by decide) (ao_cat1 (Nat.le_of_ble_eq_true rfl)) (Nat.le_of_ble_eq_true rfl) ?_
  show ao_W Γ uX3_forgetWrites (ao_rm d 0 0) (ao_Q Γ (ao_PV ρ y) 0 0) 0 0 0 [some (.ref (Γ.2.2.2 + r0))] [] (M, ρ)
  unfold gX3_forgetWrites at h
  refine ao_aload_n 0 dX3_forgetWrites_0 rfl rfl ?_
  refine ao_iconst (v := 0) dX3_forgetWrites_1 (by decide) ?_
  obtain ⟨hk1, h⟩ := ao_some h
  refine an_putI r0 3 6 (q := (RX3, TX3, 12)) dX3_forgetWrites_2 rfl hk1 (Nat.le_of_ble_eq_true rfl) lf_X3_34 rfl rfl rfl rfl (fun M2 hM2 => ?_)
  replace h := ao_letD h hM2
  cases h
  exact ao_return dX3_forgetWrites_5 rfl ⟨rfl, rfl⟩

abbrev uX3_addRead : ao_Mi := (yX3_addRead, cX3_addRead, 4, none, [])
def gX3_addRead (r0 : Nat) (x1 : Int32) (x2 : Int32) (x3 : Int32) (M : ao_M) (ρ : ao_H) : Option (ao_M) :=
  if x1 < 0 then
    some M
  else
    if (26 : Int32) ≤ x1 then
      some M
    else
      if ρ.2.1 r0 = 13 then
      if (((M r0 4) >>> (x1 &&& 31)) &&& (1 : Int32)) = 0 then
        if (M r0 3) < 0 then
          some M
        else
          if (M r0 3) < (26 : Int32) then
            ao_let (ao_u M r0 4 ((M r0 4) ||| ((1 : Int32) <<< (x1 &&& 31)))) fun M7 =>
            (ρ.1 r0 0).bind fun j8 =>
            if ρ.2.1 j8 = 0 then
            if ¬ ((M7 r0 3) < 0 ∨ ρ.2.2.1 j8 ≤ (M7 r0 3).toNatClampNeg) then
            ao_let (ao_u M7 j8 (M7 r0 3).toNatClampNeg x1) fun M11 =>
            (ρ.1 r0 1).bind fun j12 =>
            if ρ.2.1 j12 = 0 then
            if ¬ ((M11 r0 3) < 0 ∨ ρ.2.2.1 j12 ≤ (M11 r0 3).toNatClampNeg) then
            ao_let (ao_u M11 j12 (M11 r0 3).toNatClampNeg x2) fun M15 =>
            (ρ.1 r0 2).bind fun j16 =>
            if ρ.2.1 j16 = 0 then
            if ¬ ((M15 r0 3) < 0 ∨ ρ.2.2.1 j16 ≤ (M15 r0 3).toNatClampNeg) then
            ao_let (ao_u M15 j16 (M15 r0 3).toNatClampNeg x3) fun M19 =>
            ao_let (ao_u M19 r0 3 ((M19 r0 3) + (1 : Int32))) fun M20 =>
            some M20
            else none
            else none
            else none
            else none
            else none
            else none
          else
            some M
      else
        some M
      else none
set_option maxRecDepth 100000 in
set_option maxHeartbeats 4000000 in
theorem aX3_addRead {Γ : ao_C} (d : Nat) (hd : 0 ≤ d) (r0 : Nat) (x1 : Int32) (x2 : Int32) (x3 : Int32) (M : ao_M) (ρ : ao_H) {y : ao_M} (h : gX3_addRead r0 x1 x2 x3 M ρ = some y) : ao_A Γ uX3_addRead d 0 0 [.ref (Γ.2.2.2 + r0), .int x1, .int x2, .int x3] (M, ρ) (ao_PV ρ y) := by
  refine ao_of (by decide) (ao_cat1 (Nat.le_of_ble_eq_true rfl)) (Nat.le_of_ble_eq_true rfl) ?_
  show ao_W Γ uX3_addRead (ao_rm d 0 0) (ao_Q Γ (ao_PV ρ y) 0 0) 0 0 0 [some (.ref (Γ.2.2.2 + r0)), some (.int x1), some (.int x2), some (.int x3)] [] (M, ρ)
  unfold gX3_addRead at h
  refine ao_iload_n 1 dX3_addRead_0 rfl rfl ?_
  refine ao_if_lt 37 dX3_addRead_1 (by decide) (fun c1 => ?_) (fun c1 => ?_)
  · replace h := ao_ifT h c1
    cases h
    exact ao_return dX3_addRead_37 rfl ⟨rfl, rfl⟩
  · replace h := ao_ifF h c1
    refine ao_iload_n 1 dX3_addRead_4 rfl rfl ?_
    refine ao_bipush (v := 26) dX3_addRead_5 (by decide) ?_
    refine ao_icmp_ge 37 dX3_addRead_7 (by decide) (fun c2 => ?_) (fun c2 => ?_)
    · replace h := ao_ifT h c2
      cases h
      exact ao_return dX3_addRead_37 rfl ⟨rfl, rfl⟩
    · replace h := ao_ifF h c2
      refine ao_aload_n 0 dX3_addRead_10 rfl rfl ?_
      obtain ⟨hk3, h⟩ := ao_some h
      refine an_getI r0 3 4 (q := (RX3, TX3, 12)) dX3_addRead_11 rfl hk3 (Nat.le_of_ble_eq_true rfl) rfl lf_X3_31 ?_
      refine ao_iload_n 1 dX3_addRead_14 rfl rfl ?_
      refine ao_ishr dX3_addRead_15 ?_
      refine ao_iconst (v := 1) dX3_addRead_16 (by decide) ?_
      refine ao_iand dX3_addRead_17 ?_
      refine ao_if_ne 37 dX3_addRead_18 (by decide) (fun c4 => ?_) (fun c4 => ?_)
      · replace h := ao_ifF h c4
        cases h
        exact ao_return dX3_addRead_37 rfl ⟨rfl, rfl⟩
      · replace h := ao_ifT h c4
        refine ao_aload_n 0 dX3_addRead_21 rfl rfl ?_
        refine an_getI r0 3 3 (q := (RX3, TX3, 12)) dX3_addRead_22 rfl hk3 (Nat.le_of_ble_eq_true rfl) rfl lf_X3_27 ?_
        refine ao_if_lt 37 dX3_addRead_25 (by decide) (fun c5 => ?_) (fun c5 => ?_)
        · replace h := ao_ifT h c5
          cases h
          exact ao_return dX3_addRead_37 rfl ⟨rfl, rfl⟩
        · replace h := ao_ifF h c5
          refine ao_aload_n 0 dX3_addRead_28 rfl rfl ?_
          refine an_getI r0 3 3 (q := (RX3, TX3, 12)) dX3_addRead_29 rfl hk3 (Nat.le_of_ble_eq_true rfl) rfl lf_X3_27 ?_
          refine ao_bipush (v := 26) dX3_addRead_32 (by decide) ?_
          refine ao_icmp_lt 38 dX3_addRead_34 (by decide) (fun c6 => ?_) (fun c6 => ?_)
          · replace h := ao_ifT h c6
            refine ao_aload_n 0 dX3_addRead_38 rfl rfl ?_
            refine ao_dup dX3_addRead_39 rfl ?_
            refine an_getI r0 3 4 (q := (RX3, TX3, 12)) dX3_addRead_40 rfl hk3 (Nat.le_of_ble_eq_true rfl) rfl lf_X3_31 ?_
            refine ao_iconst (v := 1) dX3_addRead_43 (by decide) ?_
            refine ao_iload_n 1 dX3_addRead_44 rfl rfl ?_
            refine ao_ishl dX3_addRead_45 ?_
            refine ao_ior dX3_addRead_46 ?_
            refine an_putI r0 3 4 (q := (RX3, TX3, 12)) dX3_addRead_47 rfl hk3 (Nat.le_of_ble_eq_true rfl) lf_X3_31 rfl rfl rfl rfl (fun M7 hM7 => ?_)
            replace h := ao_letD h hM7
            refine ao_aload_n 0 dX3_addRead_50 rfl rfl ?_
            obtain ⟨j8, hj8, h⟩ := ao_bind h
            refine an_getR r0 3 0 (q := (RX3, TX3, 12)) dX3_addRead_51 rfl hk3 (Nat.le_of_ble_eq_true rfl) rfl lf_X3_9 hj8 ?_
            refine ao_aload_n 0 dX3_addRead_54 rfl rfl ?_
            refine an_getI r0 3 3 (q := (RX3, TX3, 12)) dX3_addRead_55 rfl hk3 (Nat.le_of_ble_eq_true rfl) rfl lf_X3_27 ?_
            refine ao_iload_n 1 dX3_addRead_58 rfl rfl ?_
            obtain ⟨hk9, h⟩ := ao_some h
            obtain ⟨hb10, h⟩ := ao_some h
            refine an_iastore j8 dX3_addRead_59 hk9 hb10 (fun M11 hM11 => ?_)
            replace h := ao_letD h hM11
            refine ao_aload_n 0 dX3_addRead_60 rfl rfl ?_
            obtain ⟨j12, hj12, h⟩ := ao_bind h
            refine an_getR r0 3 1 (q := (RX3, TX3, 12)) dX3_addRead_61 rfl hk3 (Nat.le_of_ble_eq_true rfl) rfl lf_X3_15 hj12 ?_
            refine ao_aload_n 0 dX3_addRead_64 rfl rfl ?_
            refine an_getI r0 3 3 (q := (RX3, TX3, 12)) dX3_addRead_65 rfl hk3 (Nat.le_of_ble_eq_true rfl) rfl lf_X3_27 ?_
            refine ao_iload_n 2 dX3_addRead_68 rfl rfl ?_
            obtain ⟨hk13, h⟩ := ao_some h
            obtain ⟨hb14, h⟩ := ao_some h
            refine an_iastore j12 dX3_addRead_69 hk13 hb14 (fun M15 hM15 => ?_)
            replace h := ao_letD h hM15
            refine ao_aload_n 0 dX3_addRead_70 rfl rfl ?_
            obtain ⟨j16, hj16, h⟩ := ao_bind h
            refine an_getR r0 3 2 (q := (RX3, TX3, 12)) dX3_addRead_71 rfl hk3 (Nat.le_of_ble_eq_true rfl) rfl lf_X3_18 hj16 ?_
            refine ao_aload_n 0 dX3_addRead_74 rfl rfl ?_
            refine an_getI r0 3 3 (q := (RX3, TX3, 12)) dX3_addRead_75 rfl hk3 (Nat.le_of_ble_eq_true rfl) rfl lf_X3_27 ?_
            refine ao_iload_n 3 dX3_addRead_78 rfl rfl ?_
            obtain ⟨hk17, h⟩ := ao_some h
            obtain ⟨hb18, h⟩ := ao_some h
            refine an_iastore j16 dX3_addRead_79 hk17 hb18 (fun M19 hM19 => ?_)
            replace h := ao_letD h hM19
            refine ao_aload_n 0 dX3_addRead_80 rfl rfl ?_
            refine ao_dup dX3_addRead_81 rfl ?_
            refine an_getI r0 3 3 (q := (RX3, TX3, 12)) dX3_addRead_82 rfl hk3 (Nat.le_of_ble_eq_true rfl) rfl lf_X3_27 ?_
            refine ao_iconst (v := 1) dX3_addRead_85 (by decide) ?_
            refine ao_iadd dX3_addRead_86 ?_
            refine an_putI r0 3 3 (q := (RX3, TX3, 12)) dX3_addRead_87 rfl hk3 (Nat.le_of_ble_eq_true rfl) lf_X3_27 rfl rfl rfl rfl (fun M20 hM20 => ?_)
            replace h := ao_letD h hM20
            cases h
            exact ao_return dX3_addRead_90 rfl ⟨rfl, rfl⟩
          · replace h := ao_ifF h c6
            cases h
            exact ao_return dX3_addRead_37 rfl ⟨rfl, rfl⟩

abbrev uX3_takeReadsOf : ao_Mi := (yX3_takeReadsOf, cX3_takeReadsOf, 3, none, [])
def fX3_takeReadsOf : Nat → Nat → Nat → Nat → Int32 →  ao_M → ao_H → Option (ao_M)
  | 0, _, _, _, _, _, _ => none
  | n + 1, pc, r0, r1, x2, M, ρ =>
    if pc = 0 then
      fX3_takeReadsOf n 2 r0 r1 (0 : Int32) M ρ
    else if pc = 2 then
      if ρ.2.1 r1 = 13 then
      if (M r1 3) ≤ x2 then
        fX3_takeReadsOf n 44 r0 r1 x2 M ρ
      else
        if (26 : Int32) ≤ x2 then
          fX3_takeReadsOf n 44 r0 r1 x2 M ρ
        else
          (ρ.1 r1 0).bind fun j4 =>
          if ρ.2.1 j4 = 0 then
          if ¬ (x2 < 0 ∨ ρ.2.2.1 j4 ≤ x2.toNatClampNeg) then
          (ρ.1 r1 1).bind fun j7 =>
          if ρ.2.1 j7 = 0 then
          if ¬ (x2 < 0 ∨ ρ.2.2.1 j7 ≤ x2.toNatClampNeg) then
          (ρ.1 r1 2).bind fun j10 =>
          if ρ.2.1 j10 = 0 then
          if ¬ (x2 < 0 ∨ ρ.2.2.1 j10 ≤ x2.toNatClampNeg) then
          if ρ.2.1 r0 = 13 then
          (gX3_addRead r0 (M j4 x2.toNatClampNeg) (M j7 x2.toNatClampNeg) (M j10 x2.toNatClampNeg) M ρ).bind fun p14 =>
          ao_let (x2 + (1 : Int32)) fun v15 =>
          fX3_takeReadsOf n 2 r0 r1 v15 p14 ρ
          else none
          else none
          else none
          else none
          else none
          else none
          else none
      else none
    else if pc = 44 then
      if ρ.2.1 r1 = 13 then
      (gX3_forgetReads r1 M ρ).bind fun p17 =>
      some p17
      else none
    else none
def gX3_takeReadsOf (n : Nat) (r0 : Nat) (r1 : Nat) (M : ao_M) (ρ : ao_H) : Option (ao_M) := fX3_takeReadsOf n 0 r0 r1 0 M ρ
set_option maxRecDepth 100000 in
set_option maxHeartbeats 4000000 in
theorem wX3_takeReadsOf {Γ : ao_C} {ρ : ao_H} (d : Nat) (hd : 1 ≤ d) : ∀ n : Nat, (∀ (r0 : Nat) (r1 : Nat) (M : ao_M) (y : ao_M), fX3_takeReadsOf n 0 r0 r1 0 M ρ = some y → ao_W Γ uX3_takeReadsOf (ao_rm d 0 0) (ao_Q Γ (ao_PV ρ y) 0 0) 0 0 0 [some (.ref (Γ.2.2.2 + r0)), some (.ref (Γ.2.2.2 + r1)), none] [] (M, ρ)) ∧ (∀ (r0 : Nat) (r1 : Nat) (x2 : Int32) (M : ao_M) (y : ao_M), fX3_takeReadsOf n 2 r0 r1 x2 M ρ = some y → ao_W Γ uX3_takeReadsOf (ao_rm d 0 0) (ao_Q Γ (ao_PV ρ y) 0 0) 0 0 2 [some (.ref (Γ.2.2.2 + r0)), some (.ref (Γ.2.2.2 + r1)), some (.int x2)] [] (M, ρ)) ∧ (∀ (r0 : Nat) (r1 : Nat) (x2 : Int32) (M : ao_M) (y : ao_M), fX3_takeReadsOf n 44 r0 r1 x2 M ρ = some y → ao_W Γ uX3_takeReadsOf (ao_rm d 0 0) (ao_Q Γ (ao_PV ρ y) 0 0) 0 0 44 [some (.ref (Γ.2.2.2 + r0)), some (.ref (Γ.2.2.2 + r1)), some (.int x2)] [] (M, ρ)) := by
  intro n
  induction n with
  | zero => exact ⟨fun _ _ _ _ h => ao_no h, fun _ _ _ _ _ h => ao_no h, fun _ _ _ _ _ h => ao_no h⟩
  | succ n ih =>
    refine ⟨?_, ?_, ?_⟩
    · intro r0 r1 M y h
      replace h := ao_ifT h rfl
      refine ao_iconst (v := 0) dX3_takeReadsOf_0 (by decide) ?_
      refine ao_istore_n 2 (lo' := [some (.ref (Γ.2.2.2 + r0)), some (.ref (Γ.2.2.2 + r1)), some (.int (0 : Int32))]) dX3_takeReadsOf_1 rfl (Nat.le_of_ble_eq_true rfl) rfl ?_
      exact ih.2.1 r0 r1 (0 : Int32) M _ h
    · intro r0 r1 x2 M y h
      replace h := ao_ifF h (by decide)
      replace h := ao_ifT h rfl
      refine ao_iload_n 2 dX3_takeReadsOf_2 rfl rfl ?_
      refine ao_aload_n 1 dX3_takeReadsOf_3 rfl rfl ?_
      obtain ⟨hk1, h⟩ := ao_some h
      refine an_getI r1 3 3 (q := (RX3, TX3, 12)) dX3_takeReadsOf_4 rfl hk1 (Nat.le_of_ble_eq_true rfl) rfl lf_X3_27 ?_
      refine ao_icmp_ge 44 dX3_takeReadsOf_7 (by decide) (fun c2 => ?_) (fun c2 => ?_)
      · replace h := ao_ifT h c2
        exact ih.2.2 r0 r1 x2 M _ h
      · replace h := ao_ifF h c2
        refine ao_iload_n 2 dX3_takeReadsOf_10 rfl rfl ?_
        refine ao_bipush (v := 26) dX3_takeReadsOf_11 (by decide) ?_
        refine ao_icmp_ge 44 dX3_takeReadsOf_13 (by decide) (fun c3 => ?_) (fun c3 => ?_)
        · replace h := ao_ifT h c3
          exact ih.2.2 r0 r1 x2 M _ h
        · replace h := ao_ifF h c3
          refine ao_aload_n 0 dX3_takeReadsOf_16 rfl rfl ?_
          refine ao_aload_n 1 dX3_takeReadsOf_17 rfl rfl ?_
          obtain ⟨j4, hj4, h⟩ := ao_bind h
          refine an_getR r1 3 0 (q := (RX3, TX3, 12)) dX3_takeReadsOf_18 rfl hk1 (Nat.le_of_ble_eq_true rfl) rfl lf_X3_9 hj4 ?_
          refine ao_iload_n 2 dX3_takeReadsOf_21 rfl rfl ?_
          obtain ⟨hk5, h⟩ := ao_some h
          obtain ⟨hb6, h⟩ := ao_some h
          refine an_iaload j4 dX3_takeReadsOf_22 hk5 hb6 ?_
          refine ao_aload_n 1 dX3_takeReadsOf_23 rfl rfl ?_
          obtain ⟨j7, hj7, h⟩ := ao_bind h
          refine an_getR r1 3 1 (q := (RX3, TX3, 12)) dX3_takeReadsOf_24 rfl hk1 (Nat.le_of_ble_eq_true rfl) rfl lf_X3_15 hj7 ?_
          refine ao_iload_n 2 dX3_takeReadsOf_27 rfl rfl ?_
          obtain ⟨hk8, h⟩ := ao_some h
          obtain ⟨hb9, h⟩ := ao_some h
          refine an_iaload j7 dX3_takeReadsOf_28 hk8 hb9 ?_
          refine ao_aload_n 1 dX3_takeReadsOf_29 rfl rfl ?_
          obtain ⟨j10, hj10, h⟩ := ao_bind h
          refine an_getR r1 3 2 (q := (RX3, TX3, 12)) dX3_takeReadsOf_30 rfl hk1 (Nat.le_of_ble_eq_true rfl) rfl lf_X3_18 hj10 ?_
          refine ao_iload_n 2 dX3_takeReadsOf_33 rfl rfl ?_
          obtain ⟨hk11, h⟩ := ao_some h
          obtain ⟨hb12, h⟩ := ao_some h
          refine an_iaload j10 dX3_takeReadsOf_34 hk11 hb12 ?_
          obtain ⟨hk13, h⟩ := ao_some h
          obtain ⟨p14, hp14, h⟩ := ao_bind h
          refine an_callVv r0 3 (q := (RX3, TX3, 12)) [.int (M j4 x2.toNatClampNeg), .int (M j7 x2.toNatClampNeg), .int (M j10 x2.toNatClampNeg)] (aX3_addRead (d - 1) (by omega) r0 (M j4 x2.toNatClampNeg) (M j7 x2.toNatClampNeg) (M j10 x2.toNatClampNeg) M ρ hp14) dX3_takeReadsOf_35 lc_X3_37 li_X3_addRead ls_X3_addRead rfl hk13 rfl rfl (Nat.le_of_ble_eq_true rfl) (ao_hR (by omega) (by decide)) ?_
          obtain ⟨v15, hv15⟩ : ∃ z : Int32, z = x2 + (1 : Int32) := ⟨_, rfl⟩
          replace h := ao_letD h hv15
          refine ao_iinc 2 (v := v15) (lo' := [some (.ref (Γ.2.2.2 + r0)), some (.ref (Γ.2.2.2 + r1)), some (.int v15)]) dX3_takeReadsOf_38 rfl (by rw [hv15]; rfl) (Nat.le_of_ble_eq_true rfl) rfl ?_
          refine ao_goto 2 dX3_takeReadsOf_41 (by decide) ?_
          exact ih.2.1 r0 r1 v15 p14 _ h
    · intro r0 r1 x2 M y h
      replace h := ao_ifF h (by decide)
      replace h := ao_ifF h (by decide)
      replace h := ao_ifT h rfl
      refine ao_aload_n 1 dX3_takeReadsOf_44 rfl rfl ?_
      obtain ⟨hk16, h⟩ := ao_some h
      obtain ⟨p17, hp17, h⟩ := ao_bind h
      refine an_callVv r1 3 (q := (RX3, TX3, 12)) [] (aX3_forgetReads (d - 1) (by omega) r1 M ρ hp17) dX3_takeReadsOf_45 lc_X3_41 li_X3_forgetReads ls_X3_forgetReads rfl hk16 rfl rfl (Nat.le_of_ble_eq_true rfl) (ao_hR (by omega) (by decide)) ?_
      cases h
      exact ao_return dX3_takeReadsOf_48 rfl ⟨rfl, rfl⟩
set_option maxRecDepth 100000 in
set_option maxHeartbeats 4000000 in
theorem aX3_takeReadsOf {Γ : ao_C} (d : Nat) (hd : 1 ≤ d) (n : Nat) (r0 : Nat) (r1 : Nat) (M : ao_M) (ρ : ao_H) {y : ao_M} (h : gX3_takeReadsOf n r0 r1 M ρ = some y) : ao_A Γ uX3_takeReadsOf d 0 0 [.ref (Γ.2.2.2 + r0), .ref (Γ.2.2.2 + r1)] (M, ρ) (ao_PV ρ y) := by
  refine ao_of (by decide) (ao_cat1 (Nat.le_of_ble_eq_true rfl)) (Nat.le_of_ble_eq_true rfl) ?_
  show ao_W Γ uX3_takeReadsOf (ao_rm d 0 0) (ao_Q Γ (ao_PV ρ y) 0 0) 0 0 0 [some (.ref (Γ.2.2.2 + r0)), some (.ref (Γ.2.2.2 + r1)), none] [] (M, ρ)
  exact (wX3_takeReadsOf d hd n).1 r0 r1 M y h

abbrev uX3_wrote : ao_Mi := (yX3_wrote, cX3_wrote, 2, (some .boolean), [])
def gX3_wrote (r0 : Nat) (x1 : Int32) (M : ao_M) (ρ : ao_H) : Option (Int32 × ao_M) :=
  if x1 < 0 then
    some ((0 : Int32), M)
  else
    if (26 : Int32) ≤ x1 then
      some ((0 : Int32), M)
    else
      if ρ.2.1 r0 = 13 then
      if (((M r0 6) >>> (x1 &&& 31)) &&& (1 : Int32)) = 0 then
        some ((0 : Int32), M)
      else
        some ((1 : Int32), M)
      else none
set_option maxRecDepth 100000 in
set_option maxHeartbeats 4000000 in
theorem aX3_wrote {Γ : ao_C} (d : Nat) (hd : 0 ≤ d) (r0 : Nat) (x1 : Int32) (M : ao_M) (ρ : ao_H) {y : Int32 × ao_M} (h : gX3_wrote r0 x1 M ρ = some y) : ao_A Γ uX3_wrote d 0 0 [.ref (Γ.2.2.2 + r0), .int x1] (M, ρ) (ao_PI ρ y) := by
  refine ao_of (by decide) (ao_cat1 (Nat.le_of_ble_eq_true rfl)) (Nat.le_of_ble_eq_true rfl) ?_
  show ao_W Γ uX3_wrote (ao_rm d 0 0) (ao_Q Γ (ao_PI ρ y) 0 0) 0 0 0 [some (.ref (Γ.2.2.2 + r0)), some (.int x1)] [] (M, ρ)
  unfold gX3_wrote at h
  refine ao_iload_n 1 dX3_wrote_0 rfl rfl ?_
  refine ao_if_lt 25 dX3_wrote_1 (by decide) (fun c1 => ?_) (fun c1 => ?_)
  · replace h := ao_ifT h c1
    refine ao_iconst (v := 0) dX3_wrote_25 (by decide) ?_
    cases h
    exact ao_ireturn dX3_wrote_26 rfl rfl ⟨rfl, rfl⟩
  · replace h := ao_ifF h c1
    refine ao_iload_n 1 dX3_wrote_4 rfl rfl ?_
    refine ao_bipush (v := 26) dX3_wrote_5 (by decide) ?_
    refine ao_icmp_ge 25 dX3_wrote_7 (by decide) (fun c2 => ?_) (fun c2 => ?_)
    · replace h := ao_ifT h c2
      refine ao_iconst (v := 0) dX3_wrote_25 (by decide) ?_
      cases h
      exact ao_ireturn dX3_wrote_26 rfl rfl ⟨rfl, rfl⟩
    · replace h := ao_ifF h c2
      refine ao_aload_n 0 dX3_wrote_10 rfl rfl ?_
      obtain ⟨hk3, h⟩ := ao_some h
      refine an_getI r0 3 6 (q := (RX3, TX3, 12)) dX3_wrote_11 rfl hk3 (Nat.le_of_ble_eq_true rfl) rfl lf_X3_34 ?_
      refine ao_iload_n 1 dX3_wrote_14 rfl rfl ?_
      refine ao_ishr dX3_wrote_15 ?_
      refine ao_iconst (v := 1) dX3_wrote_16 (by decide) ?_
      refine ao_iand dX3_wrote_17 ?_
      refine ao_if_eq 25 dX3_wrote_18 (by decide) (fun c4 => ?_) (fun c4 => ?_)
      · replace h := ao_ifT h c4
        refine ao_iconst (v := 0) dX3_wrote_25 (by decide) ?_
        cases h
        exact ao_ireturn dX3_wrote_26 rfl rfl ⟨rfl, rfl⟩
      · replace h := ao_ifF h c4
        refine ao_iconst (v := 1) dX3_wrote_21 (by decide) ?_
        refine ao_goto 26 dX3_wrote_22 (by decide) ?_
        cases h
        exact ao_ireturn dX3_wrote_26 rfl rfl ⟨rfl, rfl⟩

abbrev uX3_addWrite : ao_Mi := (yX3_addWrite, cX3_addWrite, 3, none, [])
def gX3_addWrite (r0 : Nat) (x1 : Int32) (x2 : Int32) (M : ao_M) (ρ : ao_H) : Option (ao_M) :=
  if x1 < 0 then
    some M
  else
    if (26 : Int32) ≤ x1 then
      some M
    else
      if ρ.2.1 r0 = 13 then
      ao_let (ao_u M r0 6 ((M r0 6) ||| ((1 : Int32) <<< (x1 &&& 31)))) fun M4 =>
      (ρ.1 r0 5).bind fun j5 =>
      if ρ.2.1 j5 = 0 then
      if ¬ (x1 < 0 ∨ ρ.2.2.1 j5 ≤ x1.toNatClampNeg) then
      ao_let (ao_u M4 j5 x1.toNatClampNeg x2) fun M8 =>
      some M8
      else none
      else none
      else none
set_option maxRecDepth 100000 in
set_option maxHeartbeats 4000000 in
theorem aX3_addWrite {Γ : ao_C} (d : Nat) (hd : 0 ≤ d) (r0 : Nat) (x1 : Int32) (x2 : Int32) (M : ao_M) (ρ : ao_H) {y : ao_M} (h : gX3_addWrite r0 x1 x2 M ρ = some y) : ao_A Γ uX3_addWrite d 0 0 [.ref (Γ.2.2.2 + r0), .int x1, .int x2] (M, ρ) (ao_PV ρ y) := by
  refine ao_of (by decide) (ao_cat1 (Nat.le_of_ble_eq_true rfl)) (Nat.le_of_ble_eq_true rfl) ?_
  show ao_W Γ uX3_addWrite (ao_rm d 0 0) (ao_Q Γ (ao_PV ρ y) 0 0) 0 0 0 [some (.ref (Γ.2.2.2 + r0)), some (.int x1), some (.int x2)] [] (M, ρ)
  unfold gX3_addWrite at h
  refine ao_iload_n 1 dX3_addWrite_0 rfl rfl ?_
  refine ao_if_lt 29 dX3_addWrite_1 (by decide) (fun c1 => ?_) (fun c1 => ?_)
  · replace h := ao_ifT h c1
    cases h
    exact ao_return dX3_addWrite_29 rfl ⟨rfl, rfl⟩
  · replace h := ao_ifF h c1
    refine ao_iload_n 1 dX3_addWrite_4 rfl rfl ?_
    refine ao_bipush (v := 26) dX3_addWrite_5 (by decide) ?_
    refine ao_icmp_ge 29 dX3_addWrite_7 (by decide) (fun c2 => ?_) (fun c2 => ?_)
    · replace h := ao_ifT h c2
      cases h
      exact ao_return dX3_addWrite_29 rfl ⟨rfl, rfl⟩
    · replace h := ao_ifF h c2
      refine ao_aload_n 0 dX3_addWrite_10 rfl rfl ?_
      refine ao_dup dX3_addWrite_11 rfl ?_
      obtain ⟨hk3, h⟩ := ao_some h
      refine an_getI r0 3 6 (q := (RX3, TX3, 12)) dX3_addWrite_12 rfl hk3 (Nat.le_of_ble_eq_true rfl) rfl lf_X3_34 ?_
      refine ao_iconst (v := 1) dX3_addWrite_15 (by decide) ?_
      refine ao_iload_n 1 dX3_addWrite_16 rfl rfl ?_
      refine ao_ishl dX3_addWrite_17 ?_
      refine ao_ior dX3_addWrite_18 ?_
      refine an_putI r0 3 6 (q := (RX3, TX3, 12)) dX3_addWrite_19 rfl hk3 (Nat.le_of_ble_eq_true rfl) lf_X3_34 rfl rfl rfl rfl (fun M4 hM4 => ?_)
      replace h := ao_letD h hM4
      refine ao_aload_n 0 dX3_addWrite_22 rfl rfl ?_
      obtain ⟨j5, hj5, h⟩ := ao_bind h
      refine an_getR r0 3 5 (q := (RX3, TX3, 12)) dX3_addWrite_23 rfl hk3 (Nat.le_of_ble_eq_true rfl) rfl lf_X3_21 hj5 ?_
      refine ao_iload_n 1 dX3_addWrite_26 rfl rfl ?_
      refine ao_iload_n 2 dX3_addWrite_27 rfl rfl ?_
      obtain ⟨hk6, h⟩ := ao_some h
      obtain ⟨hb7, h⟩ := ao_some h
      refine an_iastore j5 dX3_addWrite_28 hk6 hb7 (fun M8 hM8 => ?_)
      replace h := ao_letD h hM8
      cases h
      exact ao_return dX3_addWrite_29 rfl ⟨rfl, rfl⟩

abbrev uX4_broken : ao_Mi := (yX4_broken, cX4_broken, 1, (some .boolean), [])
def gX4_broken (r0 : Nat) (M : ao_M) (ρ : ao_H) : Option (Int32 × ao_M) :=
  if ρ.2.1 r0 = 14 then
  (ρ.1 r0 0).bind fun j2 =>
  if ρ.2.1 j2 = 19 then
  ao_let (ao_u M r0 2 (M j2 9)) fun M4 =>
  some ((0 : Int32), M4)
  else none
  else none
set_option maxRecDepth 100000 in
set_option maxHeartbeats 4000000 in
theorem aX4_broken {Γ : ao_C} (d : Nat) (hd : 0 ≤ d) (r0 : Nat) (M : ao_M) (ρ : ao_H) {y : Int32 × ao_M} (h : gX4_broken r0 M ρ = some y) : ao_A Γ uX4_broken d 0 0 [.ref (Γ.2.2.2 + r0)] (M, ρ) (ao_PI ρ y) := by
  refine ao_of (by decide) (ao_cat1 (Nat.le_of_ble_eq_true rfl)) (Nat.le_of_ble_eq_true rfl) ?_
  show ao_W Γ uX4_broken (ao_rm d 0 0) (ao_Q Γ (ao_PI ρ y) 0 0) 0 0 0 [some (.ref (Γ.2.2.2 + r0))] [] (M, ρ)
  unfold gX4_broken at h
  refine ao_aload_n 0 dX4_broken_0 rfl rfl ?_
  refine ao_aload_n 0 dX4_broken_1 rfl rfl ?_
  obtain ⟨hk1, h⟩ := ao_some h
  obtain ⟨j2, hj2, h⟩ := ao_bind h
  refine an_getR r0 4 0 (q := (RX4, TX4, 3)) dX4_broken_2 rfl hk1 (Nat.le_of_ble_eq_true rfl) rfl lf_X4_12 hj2 ?_
  obtain ⟨hk3, h⟩ := ao_some h
  refine an_getI j2 9 9 (q := (RX9, TX9, 11)) dX4_broken_5 rfl hk3 (Nat.le_of_ble_eq_true rfl) rfl lf_X4_49 ?_
  refine an_putI r0 4 2 (q := (RX4, TX4, 3)) dX4_broken_8 rfl hk1 (Nat.le_of_ble_eq_true rfl) lf_X4_27 rfl rfl rfl rfl (fun M4 hM4 => ?_)
  replace h := ao_letD h hM4
  refine ao_iconst (v := 0) dX4_broken_11 (by decide) ?_
  cases h
  exact ao_ireturn dX4_broken_12 rfl rfl ⟨rfl, rfl⟩

abbrev uX5_valueAt : ao_Mi := (yX5_valueAt, cX5_valueAt, 5, (some .int), [])
def fX5_valueAt : Nat → Nat → Nat → Int32 → Int32 → Int32 → Int32 →  ao_M → ao_H → Option (Int32 × ao_M)
  | 0, _, _, _, _, _, _, _, _ => none
  | n + 1, pc, r0, x1, x2, x3, x4, M, ρ =>
    if pc = 0 then
      if x1 < 0 then
        some ((0 : Int32), M)
      else
        if x1 < (26 : Int32) then
          if ρ.2.1 r0 = 15 then
          (ρ.1 r0 5).bind fun j4 =>
          if ρ.2.1 j4 = 0 then
          if ¬ (x1 < 0 ∨ ρ.2.2.1 j4 ≤ x1.toNatClampNeg) then
          ao_let (M j4 x1.toNatClampNeg) fun v7 =>
          fX5_valueAt n 22 r0 x1 x2 v7 (0 : Int32) M ρ
          else none
          else none
          else none
        else
          some ((0 : Int32), M)
    else if pc = 22 then
      if ρ.2.1 r0 = 15 then
      if (M r0 10) < x4 then
        some ((0 : Int32), M)
      else
        if x3 < 0 then
          some ((0 : Int32), M)
        else
          if (M r0 9) ≤ x3 then
            some ((0 : Int32), M)
          else
            (ρ.1 r0 6).bind fun j12 =>
            if ρ.2.1 j12 = 0 then
            if ¬ (x3 < 0 ∨ ρ.2.2.1 j12 ≤ x3.toNatClampNeg) then
            if x2 < (M j12 x3.toNatClampNeg) then
              (ρ.1 r0 8).bind fun j16 =>
              if ρ.2.1 j16 = 0 then
              if ¬ (x3 < 0 ∨ ρ.2.2.1 j16 ≤ x3.toNatClampNeg) then
              ao_let (M j16 x3.toNatClampNeg) fun v19 =>
              ao_let (x4 + (1 : Int32)) fun v20 =>
              fX5_valueAt n 22 r0 x1 x2 v19 v20 M ρ
              else none
              else none
            else
              (ρ.1 r0 7).bind fun j21 =>
              if ρ.2.1 j21 = 0 then
              if ¬ (x3 < 0 ∨ ρ.2.2.1 j21 ≤ x3.toNatClampNeg) then
              some ((M j21 x3.toNatClampNeg), M)
              else none
              else none
            else none
            else none
      else none
    else none
def gX5_valueAt (n : Nat) (r0 : Nat) (x1 : Int32) (x2 : Int32) (M : ao_M) (ρ : ao_H) : Option (Int32 × ao_M) := fX5_valueAt n 0 r0 x1 x2 0 0 M ρ
set_option maxRecDepth 100000 in
set_option maxHeartbeats 4000000 in
theorem wX5_valueAt {Γ : ao_C} {ρ : ao_H} (d : Nat) (hd : 0 ≤ d) : ∀ n : Nat, (∀ (r0 : Nat) (x1 : Int32) (x2 : Int32) (M : ao_M) (y : Int32 × ao_M), fX5_valueAt n 0 r0 x1 x2 0 0 M ρ = some y → ao_W Γ uX5_valueAt (ao_rm d 0 0) (ao_Q Γ (ao_PI ρ y) 0 0) 0 0 0 [some (.ref (Γ.2.2.2 + r0)), some (.int x1), some (.int x2), none, none] [] (M, ρ)) ∧ (∀ (r0 : Nat) (x1 : Int32) (x2 : Int32) (x3 : Int32) (x4 : Int32) (M : ao_M) (y : Int32 × ao_M), fX5_valueAt n 22 r0 x1 x2 x3 x4 M ρ = some y → ao_W Γ uX5_valueAt (ao_rm d 0 0) (ao_Q Γ (ao_PI ρ y) 0 0) 0 0 22 [some (.ref (Γ.2.2.2 + r0)), some (.int x1), some (.int x2), some (.int x3), some (.int x4)] [] (M, ρ)) := by
  intro n
  induction n with
  | zero => exact ⟨fun _ _ _ _ _ h => ao_no h, fun _ _ _ _ _ _ _ h => ao_no h⟩
  | succ n ih =>
    refine ⟨?_, ?_⟩
    · intro r0 x1 x2 M y h
      replace h := ao_ifT h rfl
      refine ao_iload_n 1 dX5_valueAt_0 rfl rfl ?_
      refine ao_if_lt 10 dX5_valueAt_1 (by decide) (fun c1 => ?_) (fun c1 => ?_)
      · replace h := ao_ifT h c1
        refine ao_iconst (v := 0) dX5_valueAt_10 (by decide) ?_
        cases h
        exact ao_ireturn dX5_valueAt_11 rfl rfl ⟨rfl, rfl⟩
      · replace h := ao_ifF h c1
        refine ao_iload_n 1 dX5_valueAt_4 rfl rfl ?_
        refine ao_bipush (v := 26) dX5_valueAt_5 (by decide) ?_
        refine ao_icmp_lt 12 dX5_valueAt_7 (by decide) (fun c2 => ?_) (fun c2 => ?_)
        · replace h := ao_ifT h c2
          refine ao_aload_n 0 dX5_valueAt_12 rfl rfl ?_
          obtain ⟨hk3, h⟩ := ao_some h
          obtain ⟨j4, hj4, h⟩ := ao_bind h
          refine an_getR r0 5 5 (q := (RX5, TX5, 11)) dX5_valueAt_13 rfl hk3 (Nat.le_of_ble_eq_true rfl) rfl lf_X5_24 hj4 ?_
          refine ao_iload_n 1 dX5_valueAt_16 rfl rfl ?_
          obtain ⟨hk5, h⟩ := ao_some h
          obtain ⟨hb6, h⟩ := ao_some h
          refine an_iaload j4 dX5_valueAt_17 hk5 hb6 ?_
          refine an_topi (fun v7 hv7 => ?_)
          replace h := ao_letD h hv7
          refine ao_istore_n 3 (lo' := [some (.ref (Γ.2.2.2 + r0)), some (.int x1), some (.int x2), some (.int v7), none]) dX5_valueAt_18 rfl (Nat.le_of_ble_eq_true rfl) rfl ?_
          refine ao_iconst (v := 0) dX5_valueAt_19 (by decide) ?_
          refine ao_istore 4 (lo' := [some (.ref (Γ.2.2.2 + r0)), some (.int x1), some (.int x2), some (.int v7), some (.int (0 : Int32))]) dX5_valueAt_20 (Nat.le_of_ble_eq_true rfl) rfl ?_
          exact ih.2 r0 x1 x2 v7 (0 : Int32) M _ h
        · replace h := ao_ifF h c2
          refine ao_iconst (v := 0) dX5_valueAt_10 (by decide) ?_
          cases h
          exact ao_ireturn dX5_valueAt_11 rfl rfl ⟨rfl, rfl⟩
    · intro r0 x1 x2 x3 x4 M y h
      replace h := ao_ifF h (by decide)
      replace h := ao_ifT h rfl
      refine ao_iload 4 dX5_valueAt_22 rfl ?_
      refine ao_aload_n 0 dX5_valueAt_24 rfl rfl ?_
      obtain ⟨hk8, h⟩ := ao_some h
      refine an_getI r0 5 10 (q := (RX5, TX5, 11)) dX5_valueAt_25 rfl hk8 (Nat.le_of_ble_eq_true rfl) rfl lf_X5_49 ?_
      refine ao_icmp_gt 73 dX5_valueAt_28 (by decide) (fun c9 => ?_) (fun c9 => ?_)
      · replace h := ao_ifT h c9
        refine ao_iconst (v := 0) dX5_valueAt_73 (by decide) ?_
        cases h
        exact ao_ireturn dX5_valueAt_74 rfl rfl ⟨rfl, rfl⟩
      · replace h := ao_ifF h c9
        refine ao_iload_n 3 dX5_valueAt_31 rfl rfl ?_
        refine ao_if_lt 73 dX5_valueAt_32 (by decide) (fun c10 => ?_) (fun c10 => ?_)
        · replace h := ao_ifT h c10
          refine ao_iconst (v := 0) dX5_valueAt_73 (by decide) ?_
          cases h
          exact ao_ireturn dX5_valueAt_74 rfl rfl ⟨rfl, rfl⟩
        · replace h := ao_ifF h c10
          refine ao_iload_n 3 dX5_valueAt_35 rfl rfl ?_
          refine ao_aload_n 0 dX5_valueAt_36 rfl rfl ?_
          refine an_getI r0 5 9 (q := (RX5, TX5, 11)) dX5_valueAt_37 rfl hk8 (Nat.le_of_ble_eq_true rfl) rfl lf_X5_27 ?_
          refine ao_icmp_ge 73 dX5_valueAt_40 (by decide) (fun c11 => ?_) (fun c11 => ?_)
          · replace h := ao_ifT h c11
            refine ao_iconst (v := 0) dX5_valueAt_73 (by decide) ?_
            cases h
            exact ao_ireturn dX5_valueAt_74 rfl rfl ⟨rfl, rfl⟩
          · replace h := ao_ifF h c11
            refine ao_aload_n 0 dX5_valueAt_43 rfl rfl ?_
            obtain ⟨j12, hj12, h⟩ := ao_bind h
            refine an_getR r0 5 6 (q := (RX5, TX5, 11)) dX5_valueAt_44 rfl hk8 (Nat.le_of_ble_eq_true rfl) rfl lf_X5_31 hj12 ?_
            refine ao_iload_n 3 dX5_valueAt_47 rfl rfl ?_
            obtain ⟨hk13, h⟩ := ao_some h
            obtain ⟨hb14, h⟩ := ao_some h
            refine an_iaload j12 dX5_valueAt_48 hk13 hb14 ?_
            refine ao_iload_n 2 dX5_valueAt_49 rfl rfl ?_
            refine ao_icmp_gt 60 dX5_valueAt_50 (by decide) (fun c15 => ?_) (fun c15 => ?_)
            · replace h := ao_ifT h c15
              refine ao_aload_n 0 dX5_valueAt_60 rfl rfl ?_
              obtain ⟨j16, hj16, h⟩ := ao_bind h
              refine an_getR r0 5 8 (q := (RX5, TX5, 11)) dX5_valueAt_61 rfl hk8 (Nat.le_of_ble_eq_true rfl) rfl lf_X5_37 hj16 ?_
              refine ao_iload_n 3 dX5_valueAt_64 rfl rfl ?_
              obtain ⟨hk17, h⟩ := ao_some h
              obtain ⟨hb18, h⟩ := ao_some h
              refine an_iaload j16 dX5_valueAt_65 hk17 hb18 ?_
              refine an_topi (fun v19 hv19 => ?_)
              replace h := ao_letD h hv19
              refine ao_istore_n 3 (lo' := [some (.ref (Γ.2.2.2 + r0)), some (.int x1), some (.int x2), some (.int v19), some (.int x4)]) dX5_valueAt_66 rfl (Nat.le_of_ble_eq_true rfl) rfl ?_
              obtain ⟨v20, hv20⟩ : ∃ z : Int32, z = x4 + (1 : Int32) := ⟨_, rfl⟩
              replace h := ao_letD h hv20
              refine ao_iinc 4 (v := v20) (lo' := [some (.ref (Γ.2.2.2 + r0)), some (.int x1), some (.int x2), some (.int v19), some (.int v20)]) dX5_valueAt_67 rfl (by rw [hv20]; rfl) (Nat.le_of_ble_eq_true rfl) rfl ?_
              refine ao_goto 22 dX5_valueAt_70 (by decide) ?_
              exact ih.2 r0 x1 x2 v19 v20 M _ h
            · replace h := ao_ifF h c15
              refine ao_aload_n 0 dX5_valueAt_53 rfl rfl ?_
              obtain ⟨j21, hj21, h⟩ := ao_bind h
              refine an_getR r0 5 7 (q := (RX5, TX5, 11)) dX5_valueAt_54 rfl hk8 (Nat.le_of_ble_eq_true rfl) rfl lf_X5_34 hj21 ?_
              refine ao_iload_n 3 dX5_valueAt_57 rfl rfl ?_
              obtain ⟨hk22, h⟩ := ao_some h
              obtain ⟨hb23, h⟩ := ao_some h
              refine an_iaload j21 dX5_valueAt_58 hk22 hb23 ?_
              cases h
              exact ao_ireturn dX5_valueAt_59 rfl rfl ⟨rfl, rfl⟩
set_option maxRecDepth 100000 in
set_option maxHeartbeats 4000000 in
theorem aX5_valueAt {Γ : ao_C} (d : Nat) (hd : 0 ≤ d) (n : Nat) (r0 : Nat) (x1 : Int32) (x2 : Int32) (M : ao_M) (ρ : ao_H) {y : Int32 × ao_M} (h : gX5_valueAt n r0 x1 x2 M ρ = some y) : ao_A Γ uX5_valueAt d 0 0 [.ref (Γ.2.2.2 + r0), .int x1, .int x2] (M, ρ) (ao_PI ρ y) := by
  refine ao_of (by decide) (ao_cat1 (Nat.le_of_ble_eq_true rfl)) (Nat.le_of_ble_eq_true rfl) ?_
  show ao_W Γ uX5_valueAt (ao_rm d 0 0) (ao_Q Γ (ao_PI ρ y) 0 0) 0 0 0 [some (.ref (Γ.2.2.2 + r0)), some (.int x1), some (.int x2), none, none] [] (M, ρ)
  exact (wX5_valueAt d hd n).1 r0 x1 x2 M y h
