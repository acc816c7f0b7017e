abbrev uX10_order : ao_Mi := (yX10_order, cX10_order, 2, (some .int), [])
def fX10_order : Nat → Nat → Nat → Int32 →  ao_M → ao_H → Option ((Int32 ⊕ String) × ao_S)
  | 0, _, _, _, _, _ => none
  | n + 1, pc, r0, x1, M, ρ =>
    if pc = 0 then
      if x1 < 0 then
        fX10_order n 21 r0 x1 M ρ
      else
        if ρ.2.1 r0 = 20 then
        (ρ.1 r0 3).bind fun j3 =>
        if ρ.2.1 j3 = 10 then
        if (M j3 1) ≤ x1 then
          fX10_order n 21 r0 x1 M ρ
        else
          if x1 < (14 : Int32) then
            (ρ.1 j3 0).bind fun j7 =>
            if ρ.2.1 j7 = 0 then
            if ¬ (x1 < 0 ∨ ρ.2.2.1 j7 ≤ x1.toNatClampNeg) then
            some (.inl (M j7 x1.toNatClampNeg), M, ρ)
            else none
            else none
          else
            fX10_order n 21 r0 x1 M ρ
        else none
        else none
    else if pc = 21 then
      some (.inr "java/lang/IndexOutOfBoundsException", M, ao_th ρ)
    else none
def gX10_order (n : Nat) (r0 : Nat) (x1 : Int32) (M : ao_M) (ρ : ao_H) : Option ((Int32 ⊕ String) × ao_S) := fX10_order n 0 r0 x1 M ρ
set_option maxRecDepth 100000 in
set_option maxHeartbeats 4000000 in
theorem mX10_order : ∀ n : Nat, (∀ (r0 : Nat) (x1 : Int32) (M : ao_M) (ρ : ao_H) (y : (Int32 ⊕ String) × ao_S), fX10_order n 0 r0 x1 M ρ = some y → ao_le ρ y.2.2) ∧ (∀ (r0 : Nat) (x1 : Int32) (M : ao_M) (ρ : ao_H) (y : (Int32 ⊕ String) × ao_S), fX10_order n 21 r0 x1 M ρ = some y → ao_le ρ y.2.2) := by
  intro n
  induction n with
  | zero => exact ⟨fun _ _ _ _ _ h => ao_no h, fun _ _ _ _ _ h => ao_no h⟩
  | succ n ih =>
    refine ⟨?_, ?_⟩
    · intro r0 x1 M ρ y h
      replace h := ao_ifT h rfl
      rcases ao_ifC h with h | h
      · exact ih.2 r0 x1 M ρ _ h
      · obtain ⟨-, h⟩ := ao_some h
        obtain ⟨j3, hj3, h⟩ := ao_bind h
        obtain ⟨-, h⟩ := ao_some h
        rcases ao_ifC h with h | h
        · exact ih.2 r0 x1 M ρ _ h
        · rcases ao_ifC h with h | h
          · obtain ⟨j7, hj7, h⟩ := ao_bind h
            obtain ⟨-, h⟩ := ao_some h
            obtain ⟨-, h⟩ := ao_some h
            cases h
            exact ao_le_rf _
          · exact ih.2 r0 x1 M ρ _ h
    · intro r0 x1 M ρ y h
      replace h := ao_ifF h (by decide)
      replace h := ao_ifT h rfl
      cases h
      exact ao_le_th _
set_option maxRecDepth 100000 in
set_option maxHeartbeats 4000000 in
theorem wX10_order {Γ : ao_C} (d : Nat) (hd : 8 ≤ d) (MC MS : Nat) : ∀ n : Nat, (∀ (r0 : Nat) (x1 : Int32) (M : ao_M) (ρ : ao_H) (y : (Int32 ⊕ String) × ao_S), fX10_order n 0 r0 x1 M ρ = some y → ao_W Γ uX10_order (ao_rm d MC MS) (ao_Q Γ (ao_ZI y) MC MS) (ao_dc ρ y.2.2) (ao_ds ρ y.2.2) 0 [some (.ref (Γ.2.2.2 + r0)), some (.int x1)] [] (M, ρ)) ∧ (∀ (r0 : Nat) (x1 : Int32) (M : ao_M) (ρ : ao_H) (y : (Int32 ⊕ String) × ao_S), fX10_order n 21 r0 x1 M ρ = some y → ao_W Γ uX10_order (ao_rm d MC MS) (ao_Q Γ (ao_ZI y) MC MS) (ao_dc ρ y.2.2) (ao_ds ρ y.2.2) 21 [some (.ref (Γ.2.2.2 + r0)), some (.int x1)] [] (M, ρ)) := by
  intro n
  induction n with
  | zero => exact ⟨fun _ _ _ _ _ h => ao_no h, fun _ _ _ _ _ h => ao_no h⟩
  | succ n ih =>
    refine ⟨?_, ?_⟩
    · intro r0 x1 M ρ y h
      replace h := ao_ifT h rfl
      refine ao_iload_n 1 dX10_order_0 rfl rfl ?_
      refine ao_if_lt 21 dX10_order_1 (by decide) (fun c1 => ?_) (fun c1 => ?_)
      · replace h := ao_ifT h c1
        exact ih.2 r0 x1 M ρ _ h
      · replace h := ao_ifF h c1
        refine ao_iload_n 1 dX10_order_4 rfl rfl ?_
        refine ao_aload_n 0 dX10_order_5 rfl rfl ?_
        obtain ⟨hk2, h⟩ := ao_some h
        obtain ⟨j3, hj3, h⟩ := ao_bind h
        refine an_getR r0 10 3 (q := (RX10, TX10, 6)) dX10_order_6 rfl hk2 (Nat.le_of_ble_eq_true rfl) rfl lf_X10_30 hj3 ?_
        obtain ⟨hk4, h⟩ := ao_some h
        refine an_getI j3 0 1 (q := (RX0, TX0, 5)) dX10_order_9 rfl hk4 (Nat.le_of_ble_eq_true rfl) rfl lf_X10_194 ?_
        refine ao_icmp_ge 21 dX10_order_12 (by decide) (fun c5 => ?_) (fun c5 => ?_)
        · replace h := ao_ifT h c5
          exact ih.2 r0 x1 M ρ _ h
        · replace h := ao_ifF h c5
          refine ao_iload_n 1 dX10_order_15 rfl rfl ?_
          refine ao_bipush (v := 14) dX10_order_16 (by decide) ?_
          refine ao_icmp_lt 31 dX10_order_18 (by decide) (fun c6 => ?_) (fun c6 => ?_)
          · replace h := ao_ifT h c6
            refine ao_aload_n 0 dX10_order_31 rfl rfl ?_
            refine an_getR r0 10 3 (q := (RX10, TX10, 6)) dX10_order_32 rfl hk2 (Nat.le_of_ble_eq_true rfl) rfl lf_X10_30 hj3 ?_
            obtain ⟨j7, hj7, h⟩ := ao_bind h
            refine an_getR j3 0 0 (q := (RX0, TX0, 5)) dX10_order_35 rfl hk4 (Nat.le_of_ble_eq_true rfl) rfl lf_X10_199 hj7 ?_
            refine ao_iload_n 1 dX10_order_38 rfl rfl ?_
            obtain ⟨hk8, h⟩ := ao_some h
            obtain ⟨hb9, h⟩ := ao_some h
            refine an_iaload j7 dX10_order_39 hk8 hb9 ?_
            cases h
            exact ao_ireturn dX10_order_40 rfl rfl ⟨rfl, rfl⟩
          · replace h := ao_ifF h c6
            exact ih.2 r0 x1 M ρ _ h
    · intro r0 x1 M ρ y h
      replace h := ao_ifF h (by decide)
      replace h := ao_ifT h rfl
      cases h
      exact cx_throwS "java/lang/IndexOutOfBoundsException" "not in the order" ["java/lang/RuntimeException", "java/lang/Exception"] lth_X10_197 rfl dX10_order_21 dX10_order_24 dX10_order_25 dX10_order_27 dX10_order_30 (by omega) (Nat.le_of_ble_eq_true rfl) ao_thM ⟨rfl, rfl⟩
theorem me_X10_order (n : Nat) (r0 : Nat) (x1 : Int32) (M : ao_M) (ρ : ao_H) {y : (Int32 ⊕ String) × ao_S} (h : gX10_order n r0 x1 M ρ = some y) : ao_le ρ y.2.2 := (mX10_order n).1 r0 x1 M ρ y h
set_option maxRecDepth 100000 in
set_option maxHeartbeats 4000000 in
theorem aX10_order {Γ : ao_C} (d : Nat) (hd : 8 ≤ d) (n : Nat) (r0 : Nat) (x1 : Int32) (M : ao_M) (ρ : ao_H) {y : (Int32 ⊕ String) × ao_S} (h : gX10_order n r0 x1 M ρ = some y) : ao_A Γ uX10_order d (ao_dc ρ y.2.2) (ao_ds ρ y.2.2) [.ref (Γ.2.2.2 + r0), .int x1] (M, ρ) (ao_ZI y) := by
  refine ao_of (by decide) (ao_cat1 (Nat.le_of_ble_eq_true rfl)) (Nat.le_of_ble_eq_true rfl) ?_
  show ao_W Γ uX10_order (ao_rm d (ao_dc ρ y.2.2) (ao_ds ρ y.2.2)) (ao_Q Γ (ao_ZI y) (ao_dc ρ y.2.2) (ao_ds ρ y.2.2)) (ao_dc ρ y.2.2) (ao_ds ρ y.2.2) 0 [some (.ref (Γ.2.2.2 + r0)), some (.int x1)] [] (M, ρ)
  exact (wX10_order d hd _ _ n).1 r0 x1 M ρ y h

abbrev uX10_record : ao_Mi := (yX10_record, cX10_record, 3, (some .int), [])
def fX10_record : Nat → Nat → Nat → Int32 → Int32 →  ao_M → ao_H → Option ((Int32 ⊕ String) × ao_S)
  | 0, _, _, _, _, _, _ => none
  | n + 1, pc, r0, x1, x2, M, ρ =>
    if pc = 0 then
      if x2 < 0 then
        fX10_record n 9 r0 x1 x2 M ρ
      else
        if x2 ≤ (4 : Int32) then
          if x1 < 0 then
            fX10_record n 44 r0 x1 x2 M ρ
          else
            if ρ.2.1 r0 = 20 then
            (ρ.1 r0 2).bind fun j5 =>
            if ρ.2.1 j5 = 12 then
            (ρ.1 j5 3).bind fun j7 =>
            if ρ.2.1 j7 = 16 then
            if (M j7 9) ≤ x1 then
              fX10_record n 44 r0 x1 x2 M ρ
            else
              if x1 < (300 : Int32) then
                (gX6_tellOf j7 x1 x2 M ρ).bind fun p11 =>
                some (.inl p11.1, p11.2, ρ)
              else
                fX10_record n 44 r0 x1 x2 M ρ
            else none
            else none
            else none
        else
          fX10_record n 9 r0 x1 x2 M ρ
    else if pc = 9 then
      some (.inr "java/lang/IllegalArgumentException", M, ao_th ρ)
    else if pc = 44 then
      some (.inr "java/lang/IndexOutOfBoundsException", M, ao_th ρ)
    else none
def gX10_record (n : Nat) (r0 : Nat) (x1 : Int32) (x2 : Int32) (M : ao_M) (ρ : ao_H) : Option ((Int32 ⊕ String) × ao_S) := fX10_record n 0 r0 x1 x2 M ρ
set_option maxRecDepth 100000 in
set_option maxHeartbeats 4000000 in
theorem mX10_record : ∀ n : Nat, (∀ (r0 : Nat) (x1 : Int32) (x2 : Int32) (M : ao_M) (ρ : ao_H) (y : (Int32 ⊕ String) × ao_S), fX10_record n 0 r0 x1 x2 M ρ = some y → ao_le ρ y.2.2) ∧ (∀ (r0 : Nat) (x1 : Int32) (x2 : Int32) (M : ao_M) (ρ : ao_H) (y : (Int32 ⊕ String) × ao_S), fX10_record n 9 r0 x1 x2 M ρ = some y → ao_le ρ y.2.2) ∧ (∀ (r0 : Nat) (x1 : Int32) (x2 : Int32) (M : ao_M) (ρ : ao_H) (y : (Int32 ⊕ String) × ao_S), fX10_record n 44 r0 x1 x2 M ρ = some y → ao_le ρ y.2.2) := by
  intro n
  induction n with
  | zero => exact ⟨fun _ _ _ _ _ _ h => ao_no h, fun _ _ _ _ _ _ h => ao_no h, fun _ _ _ _ _ _ h => ao_no h⟩
  | succ n ih =>
    refine ⟨?_, ?_, ?_⟩
    · intro r0 x1 x2 M ρ y h
      replace h := ao_ifT h rfl
      rcases ao_ifC h with h | h
      · exact ih.2.1 r0 x1 x2 M ρ _ h
      · rcases ao_ifC h with h | h
        · rcases ao_ifC h with h | h
          · exact ih.2.2 r0 x1 x2 M ρ _ h
          · obtain ⟨-, h⟩ := ao_some h
            obtain ⟨j5, hj5, h⟩ := ao_bind h
            obtain ⟨-, h⟩ := ao_some h
            obtain ⟨j7, hj7, h⟩ := ao_bind h
            obtain ⟨-, h⟩ := ao_some h
            rcases ao_ifC h with h | h
            · exact ih.2.2 r0 x1 x2 M ρ _ h
            · rcases ao_ifC h with h | h
              · obtain ⟨p11, hp11, h⟩ := ao_bind h
                cases h
                exact ao_le_rf _
              · exact ih.2.2 r0 x1 x2 M ρ _ h
        · exact ih.2.1 r0 x1 x2 M ρ _ h
    · intro r0 x1 x2 M ρ y h
      replace h := ao_ifF h (by decide)
      replace h := ao_ifT h rfl
      cases h
      exact ao_le_th _
    · intro r0 x1 x2 M ρ y h
      replace h := ao_ifF h (by decide)
      replace h := ao_ifF h (by decide)
      replace h := ao_ifT h rfl
      cases h
      exact ao_le_th _
set_option maxRecDepth 100000 in
set_option maxHeartbeats 4000000 in
theorem wX10_record {Γ : ao_C} (d : Nat) (hd : 8 ≤ d) (MC MS : Nat) : ∀ n : Nat, (∀ (r0 : Nat) (x1 : Int32) (x2 : Int32) (M : ao_M) (ρ : ao_H) (y : (Int32 ⊕ String) × ao_S), fX10_record n 0 r0 x1 x2 M ρ = some y → ao_W Γ uX10_record (ao_rm d MC MS) (ao_Q Γ (ao_ZI y) MC MS) (ao_dc ρ y.2.2) (ao_ds ρ y.2.2) 0 [some (.ref (Γ.2.2.2 + r0)), some (.int x1), some (.int x2)] [] (M, ρ)) ∧ (∀ (r0 : Nat) (x1 : Int32) (x2 : Int32) (M : ao_M) (ρ : ao_H) (y : (Int32 ⊕ String) × ao_S), fX10_record n 9 r0 x1 x2 M ρ = some y → ao_W Γ uX10_record (ao_rm d MC MS) (ao_Q Γ (ao_ZI y) MC MS) (ao_dc ρ y.2.2) (ao_ds ρ y.2.2) 9 [some (.ref (Γ.2.2.2 + r0)), some (.int x1), some (.int x2)] [] (M, ρ)) ∧ (∀ (r0 : Nat) (x1 : Int32) (x2 : Int32) (M : ao_M) (ρ : ao_H) (y : (Int32 ⊕ String) × ao_S), fX10_record n 44 r0 x1 x2 M ρ = some y → ao_W Γ uX10_record (ao_rm d MC MS) (ao_Q Γ (ao_ZI y) MC MS) (ao_dc ρ y.2.2) (ao_ds ρ y.2.2) 44 [some (.ref (Γ.2.2.2 + r0)), some (.int x1), some (.int x2)] [] (M, ρ)) := by
  intro n
  induction n with
  | zero => exact ⟨fun _ _ _ _ _ _ h => ao_no h, fun _ _ _ _ _ _ h => ao_no h, fun _ _ _ _ _ _ h => ao_no h⟩
  | succ n ih =>
    refine ⟨?_, ?_, ?_⟩
    · intro r0 x1 x2 M ρ y h
      replace h := ao_ifT h rfl
      refine ao_iload_n 2 dX10_record_0 rfl rfl ?_
      refine ao_if_lt 9 dX10_record_1 (by decide) (fun c1 => ?_) (fun c1 => ?_)
      · replace h := ao_ifT h c1
        exact ih.2.1 r0 x1 x2 M ρ _ h
      · replace h := ao_ifF h c1
        refine ao_iload_n 2 dX10_record_4 rfl rfl ?_
        refine ao_iconst (v := 4) dX10_record_5 (by decide) ?_
        refine ao_icmp_le 19 dX10_record_6 (by decide) (fun c2 => ?_) (fun c2 => ?_)
        · replace h := ao_ifT h c2
          refine ao_iload_n 1 dX10_record_19 rfl rfl ?_
          refine ao_if_lt 44 dX10_record_20 (by decide) (fun c3 => ?_) (fun c3 => ?_)
          · replace h := ao_ifT h c3
            exact ih.2.2 r0 x1 x2 M ρ _ h
          · replace h := ao_ifF h c3
            refine ao_iload_n 1 dX10_record_23 rfl rfl ?_
            refine ao_aload_n 0 dX10_record_24 rfl rfl ?_
            obtain ⟨hk4, h⟩ := ao_some h
            obtain ⟨j5, hj5, h⟩ := ao_bind h
            refine an_getR r0 10 2 (q := (RX10, TX10, 6)) dX10_record_25 rfl hk4 (Nat.le_of_ble_eq_true rfl) rfl lf_X10_23 hj5 ?_
            obtain ⟨hk6, h⟩ := ao_some h
            obtain ⟨j7, hj7, h⟩ := ao_bind h
            refine an_getR j5 2 3 (q := (RX2, TX2, 7)) dX10_record_28 rfl hk6 (Nat.le_of_ble_eq_true rfl) rfl lf_X10_186 hj7 ?_
            obtain ⟨hk8, h⟩ := ao_some h
            refine an_getI j7 6 9 (q := (RX6, TX6, 11)) dX10_record_31 rfl hk8 (Nat.le_of_ble_eq_true rfl) rfl lf_X10_204 ?_
            refine ao_icmp_ge 44 dX10_record_34 (by decide) (fun c9 => ?_) (fun c9 => ?_)
            · replace h := ao_ifT h c9
              exact ih.2.2 r0 x1 x2 M ρ _ h
            · replace h := ao_ifF h c9
              refine ao_iload_n 1 dX10_record_37 rfl rfl ?_
              refine ao_sipush (v := 300) dX10_record_38 (by decide) ?_
              refine ao_icmp_lt 54 dX10_record_41 (by decide) (fun c10 => ?_) (fun c10 => ?_)
              · replace h := ao_ifT h c10
                refine ao_aload_n 0 dX10_record_54 rfl rfl ?_
                refine an_getR r0 10 2 (q := (RX10, TX10, 6)) dX10_record_55 rfl hk4 (Nat.le_of_ble_eq_true rfl) rfl lf_X10_23 hj5 ?_
                refine an_getR j5 2 3 (q := (RX2, TX2, 7)) dX10_record_58 rfl hk6 (Nat.le_of_ble_eq_true rfl) rfl lf_X10_186 hj7 ?_
                refine ao_iload_n 1 dX10_record_61 rfl rfl ?_
                refine ao_iload_n 2 dX10_record_62 rfl rfl ?_
                obtain ⟨p11, hp11, h⟩ := ao_bind h
                refine an_callVi j7 6 (q := (RX6, TX6, 11)) [.int x1, .int x2] (aX6_tellOf (d - 1) (by omega) j7 x1 x2 M ρ hp11) dX10_record_63 lc_X10_209 li_X6_tellOf ls_X6_tellOf rfl hk8 rfl rfl (Nat.le_of_ble_eq_true rfl) (ao_hR (by omega) (by decide)) ?_
                cases h
                exact ao_ireturn dX10_record_66 rfl rfl ⟨rfl, rfl⟩
              · replace h := ao_ifF h c10
                exact ih.2.2 r0 x1 x2 M ρ _ h
        · replace h := ao_ifF h c2
          exact ih.2.1 r0 x1 x2 M ρ _ h
    · intro r0 x1 x2 M ρ y h
      replace h := ao_ifF h (by decide)
      replace h := ao_ifT h rfl
      cases h
      exact cx_throwS "java/lang/IllegalArgumentException" "nothing to tell of a record" ["java/lang/RuntimeException", "java/lang/Exception"] lth_X10_202 rfl dX10_record_9 dX10_record_12 dX10_record_13 dX10_record_15 dX10_record_18 (by omega) (Nat.le_of_ble_eq_true rfl) ao_thM ⟨rfl, rfl⟩
    · intro r0 x1 x2 M ρ y h
      replace h := ao_ifF h (by decide)
      replace h := ao_ifF h (by decide)
      replace h := ao_ifT h rfl
      cases h
      exact cx_throwS "java/lang/IndexOutOfBoundsException" "not a record" ["java/lang/RuntimeException", "java/lang/Exception"] lth_X10_207 rfl dX10_record_44 dX10_record_47 dX10_record_48 dX10_record_50 dX10_record_53 (by omega) (Nat.le_of_ble_eq_true rfl) ao_thM ⟨rfl, rfl⟩
theorem me_X10_record (n : Nat) (r0 : Nat) (x1 : Int32) (x2 : Int32) (M : ao_M) (ρ : ao_H) {y : (Int32 ⊕ String) × ao_S} (h : gX10_record n r0 x1 x2 M ρ = some y) : ao_le ρ y.2.2 := (mX10_record n).1 r0 x1 x2 M ρ y h
set_option maxRecDepth 100000 in
set_option maxHeartbeats 4000000 in
theorem aX10_record {Γ : ao_C} (d : Nat) (hd : 8 ≤ d) (n : Nat) (r0 : Nat) (x1 : Int32) (x2 : Int32) (M : ao_M) (ρ : ao_H) {y : (Int32 ⊕ String) × ao_S} (h : gX10_record n r0 x1 x2 M ρ = some y) : ao_A Γ uX10_record d (ao_dc ρ y.2.2) (ao_ds ρ y.2.2) [.ref (Γ.2.2.2 + r0), .int x1, .int x2] (M, ρ) (ao_ZI y) := by
  refine ao_of (by decide) (ao_cat1 (Nat.le_of_ble_eq_true rfl)) (Nat.le_of_ble_eq_true rfl) ?_
  show ao_W Γ uX10_record (ao_rm d (ao_dc ρ y.2.2) (ao_ds ρ y.2.2)) (ao_Q Γ (ao_ZI y) (ao_dc ρ y.2.2) (ao_ds ρ y.2.2)) (ao_dc ρ y.2.2) (ao_ds ρ y.2.2) 0 [some (.ref (Γ.2.2.2 + r0)), some (.int x1), some (.int x2)] [] (M, ρ)
  exact (wX10_record d hd _ _ n).1 r0 x1 x2 M ρ y h

abbrev uX10_addToTape : ao_Mi := (yX10_addToTape, cX10_addToTape, 3, none, [])
def fX10_addToTape : Nat → Nat → Nat → Int32 → Int32 →  ao_M → ao_H → Option (ao_M)
  | 0, _, _, _, _, _, _ => none
  | n + 1, pc, r0, x1, x2, M, ρ =>
    if pc = 0 then
      fX10_addToTape n 3 r0 x1 (24 : Int32) M ρ
    else if pc = 3 then
      if x2 < 0 then
        some M
      else
        if ρ.2.1 r0 = 20 then
        if (M r0 4) < 0 then
          fX10_addToTape n 47 r0 x1 x2 M ρ
        else
          if (1000 : Int32) ≤ (M r0 4) then
            fX10_addToTape n 47 r0 x1 x2 M ρ
          else
            (ρ.1 r0 0).bind fun j5 =>
            if ρ.2.1 j5 = 1 then
            if ¬ ((M r0 4) < 0 ∨ ρ.2.2.1 j5 ≤ (M r0 4).toNatClampNeg) then
            ao_let (ao_u M j5 (M r0 4).toNatClampNeg (((x1 >>> (x2 &&& 31)).toInt8.toInt32).toInt8.toInt32)) fun M8 =>
            ao_let (ao_u M8 r0 4 ((M8 r0 4) + (1 : Int32))) fun M9 =>
            fX10_addToTape n 47 r0 x1 x2 M9 ρ
            else none
            else none
        else none
    else if pc = 47 then
      ao_let (x2 + (-8 : Int32)) fun v10 =>
      fX10_addToTape n 3 r0 x1 v10 M ρ
    else none
def gX10_addToTape (n : Nat) (r0 : Nat) (x1 : Int32) (M : ao_M) (ρ : ao_H) : Option (ao_M) := fX10_addToTape n 0 r0 x1 0 M ρ
set_option maxRecDepth 100000 in
set_option maxHeartbeats 4000000 in
theorem wX10_addToTape {Γ : ao_C} {ρ : ao_H} (d : Nat) (hd : 0 ≤ d) : ∀ n : Nat, (∀ (r0 : Nat) (x1 : Int32) (M : ao_M) (y : ao_M), fX10_addToTape n 0 r0 x1 0 M ρ = some y → ao_W Γ uX10_addToTape (ao_rm d 0 0) (ao_Q Γ (ao_PV ρ y) 0 0) 0 0 0 [some (.ref (Γ.2.2.2 + r0)), some (.int x1), none] [] (M, ρ)) ∧ (∀ (r0 : Nat) (x1 : Int32) (x2 : Int32) (M : ao_M) (y : ao_M), fX10_addToTape n 3 r0 x1 x2 M ρ = some y → ao_W Γ uX10_addToTape (ao_rm d 0 0) (ao_Q Γ (ao_PV ρ y) 0 0) 0 0 3 [some (.ref (Γ.2.2.2 + r0)), some (.int x1), some (.int x2)] [] (M, ρ)) ∧ (∀ (r0 : Nat) (x1 : Int32) (x2 : Int32) (M : ao_M) (y : ao_M), fX10_addToTape n 47 r0 x1 x2 M ρ = some y → ao_W Γ uX10_addToTape (ao_rm d 0 0) (ao_Q Γ (ao_PV ρ y) 0 0) 0 0 47 [some (.ref (Γ.2.2.2 + r0)), some (.int x1), some (.int x2)] [] (M, ρ)) := by
  intro n
  induction n with
  | zero => exact ⟨fun _ _ _ _ h => ao_no h, fun _ _ _ _ _ h => ao_no h, fun _ _ _ _ _ h => ao_no h⟩
  | succ n ih =>
    refine ⟨?_, ?_, ?_⟩
    · intro r0 x1 M y h
      replace h := ao_ifT h rfl
      refine ao_bipush (v := 24) dX10_addToTape_0 (by decide) ?_
      refine ao_istore_n 2 (lo' := [some (.ref (Γ.2.2.2 + r0)), some (.int x1), some (.int (24 : Int32))]) dX10_addToTape_2 rfl (Nat.le_of_ble_eq_true rfl) rfl ?_
      exact ih.2.1 r0 x1 (24 : Int32) M _ h
    · intro r0 x1 x2 M y h
      replace h := ao_ifF h (by decide)
      replace h := ao_ifT h rfl
      refine ao_iload_n 2 dX10_addToTape_3 rfl rfl ?_
      refine ao_if_lt 53 dX10_addToTape_4 (by decide) (fun c1 => ?_) (fun c1 => ?_)
      · replace h := ao_ifT h c1
        cases h
        exact ao_return dX10_addToTape_53 rfl ⟨rfl, rfl⟩
      · replace h := ao_ifF h c1
        refine ao_aload_n 0 dX10_addToTape_7 rfl rfl ?_
        obtain ⟨hk2, h⟩ := ao_some h
        refine an_getI r0 10 4 (q := (RX10, TX10, 6)) dX10_addToTape_8 rfl hk2 (Nat.le_of_ble_eq_true rfl) rfl lf_X10_34 ?_
        refine ao_if_lt 47 dX10_addToTape_11 (by decide) (fun c3 => ?_) (fun c3 => ?_)
        · replace h := ao_ifT h c3
          exact ih.2.2 r0 x1 x2 M _ h
        · replace h := ao_ifF h c3
          refine ao_aload_n 0 dX10_addToTape_14 rfl rfl ?_
          refine an_getI r0 10 4 (q := (RX10, TX10, 6)) dX10_addToTape_15 rfl hk2 (Nat.le_of_ble_eq_true rfl) rfl lf_X10_34 ?_
          refine ao_sipush (v := 1000) dX10_addToTape_18 (by decide) ?_
          refine ao_icmp_ge 47 dX10_addToTape_21 (by decide) (fun c4 => ?_) (fun c4 => ?_)
          · replace h := ao_ifT h c4
            exact ih.2.2 r0 x1 x2 M _ h
          · replace h := ao_ifF h c4
            refine ao_aload_n 0 dX10_addToTape_24 rfl rfl ?_
            obtain ⟨j5, hj5, h⟩ := ao_bind h
            refine an_getR r0 10 0 (q := (RX10, TX10, 6)) dX10_addToTape_25 rfl hk2 (Nat.le_of_ble_eq_true rfl) rfl lf_X10_9 hj5 ?_
            refine ao_aload_n 0 dX10_addToTape_28 rfl rfl ?_
            refine an_getI r0 10 4 (q := (RX10, TX10, 6)) dX10_addToTape_29 rfl hk2 (Nat.le_of_ble_eq_true rfl) rfl lf_X10_34 ?_
            refine ao_iload_n 1 dX10_addToTape_32 rfl rfl ?_
            refine ao_iload_n 2 dX10_addToTape_33 rfl rfl ?_
            refine ao_ishr dX10_addToTape_34 ?_
            refine ao_i2b dX10_addToTape_35 ?_
            obtain ⟨hk6, h⟩ := ao_some h
            obtain ⟨hb7, h⟩ := ao_some h
            refine an_bastore j5 dX10_addToTape_36 hk6 hb7 (fun M8 hM8 => ?_)
            replace h := ao_letD h hM8
            refine ao_aload_n 0 dX10_addToTape_37 rfl rfl ?_
            refine ao_dup dX10_addToTape_38 rfl ?_
            refine an_getI r0 10 4 (q := (RX10, TX10, 6)) dX10_addToTape_39 rfl hk2 (Nat.le_of_ble_eq_true rfl) rfl lf_X10_34 ?_
            refine ao_iconst (v := 1) dX10_addToTape_42 (by decide) ?_
            refine ao_iadd dX10_addToTape_43 ?_
            refine an_putI r0 10 4 (q := (RX10, TX10, 6)) dX10_addToTape_44 rfl hk2 (Nat.le_of_ble_eq_true rfl) lf_X10_34 rfl rfl rfl rfl (fun M9 hM9 => ?_)
            replace h := ao_letD h hM9
            exact ih.2.2 r0 x1 x2 M9 _ h
    · intro r0 x1 x2 M y h
      replace h := ao_ifF h (by decide)
      replace h := ao_ifF h (by decide)
      replace h := ao_ifT h rfl
      obtain ⟨v10, hv10⟩ : ∃ z : Int32, z = x2 + (-8 : Int32) := ⟨_, rfl⟩
      replace h := ao_letD h hv10
      refine ao_iinc 2 (v := v10) (lo' := [some (.ref (Γ.2.2.2 + r0)), some (.int x1), some (.int v10)]) dX10_addToTape_47 rfl (by rw [hv10]; rfl) (Nat.le_of_ble_eq_true rfl) rfl ?_
      refine ao_goto 3 dX10_addToTape_50 (by decide) ?_
      exact ih.2.1 r0 x1 v10 M _ h
set_option maxRecDepth 100000 in
set_option maxHeartbeats 4000000 in
theorem aX10_addToTape {Γ : ao_C} (d : Nat) (hd : 0 ≤ d) (n : Nat) (r0 : Nat) (x1 : Int32) (M : ao_M) (ρ : ao_H) {y : ao_M} (h : gX10_addToTape n r0 x1 M ρ = some y) : ao_A Γ uX10_addToTape d 0 0 [.ref (Γ.2.2.2 + r0), .int x1] (M, ρ) (ao_PV ρ y) := by
  refine ao_of (by decide) (ao_cat1 (Nat.le_of_ble_eq_true rfl)) (Nat.le_of_ble_eq_true rfl) ?_
  show ao_W Γ uX10_addToTape (ao_rm d 0 0) (ao_Q Γ (ao_PV ρ y) 0 0) 0 0 0 [some (.ref (Γ.2.2.2 + r0)), some (.int x1), none] [] (M, ρ)
  exact (wX10_addToTape d hd n).1 r0 x1 M y h

abbrev uX12_thrown : ao_Mi := (yX12_thrown, cX12_thrown, 1, (some .int), [])
def gX12_thrown (r0 : Nat) (M : ao_M) (ρ : ao_H) : Option (Int32 × ao_M) :=
  if ρ.2.1 r0 = 22 then
  some ((M r0 0), M)
  else none
set_option maxRecDepth 100000 in
set_option maxHeartbeats 4000000 in
theorem aX12_thrown {Γ : ao_C} (d : Nat) (hd : 0 ≤ d) (r0 : Nat) (M : ao_M) (ρ : ao_H) {y : Int32 × ao_M} (h : gX12_thrown r0 M ρ = some y) : ao_A Γ uX12_thrown d 0 0 [.ref (Γ.2.2.2 + r0)] (M, ρ) (ao_PI ρ y) := by
  refine ao_of (by decide) (ao_cat1 (Nat.le_of_ble_eq_true rfl)) (Nat.le_of_ble_eq_true rfl) ?_
  show ao_W Γ uX12_thrown (ao_rm d 0 0) (ao_Q Γ (ao_PI ρ y) 0 0) 0 0 0 [some (.ref (Γ.2.2.2 + r0))] [] (M, ρ)
  unfold gX12_thrown at h
  refine ao_aload_n 0 dX12_thrown_0 rfl rfl ?_
  obtain ⟨hk1, h⟩ := ao_some h
  refine an_getI r0 12 0 (q := (RX12, TX12, 83)) dX12_thrown_1 rfl hk1 (Nat.le_of_ble_eq_true rfl) rfl lf_X12_1 ?_
  cases h
  exact ao_ireturn dX12_thrown_4 rfl rfl ⟨rfl, rfl⟩

abbrev uX12_fails : ao_Mi := (yX12_fails, cX12_fails, 2, (some .boolean), [])
def gX12_fails (r0 : Nat) (x1 : Int32) (M : ao_M) (ρ : ao_H) : Option (Int32 × ao_M) :=
  if ρ.2.1 r0 = 22 then
  ao_let (ao_u M r0 0 x1) fun M2 =>
  if x1 = 0 then
    some ((0 : Int32), M2)
  else
    some ((1 : Int32), M2)
  else none
set_option maxRecDepth 100000 in
set_option maxHeartbeats 4000000 in
theorem aX12_fails {Γ : ao_C} (d : Nat) (hd : 0 ≤ d) (r0 : Nat) (x1 : Int32) (M : ao_M) (ρ : ao_H) {y : Int32 × ao_M} (h : gX12_fails r0 x1 M ρ = some y) : ao_A Γ uX12_fails d 0 0 [.ref (Γ.2.2.2 + r0), .int x1] (M, ρ) (ao_PI ρ y) := by
  refine ao_of (by decide) (ao_cat1 (Nat.le_of_ble_eq_true rfl)) (Nat.le_of_ble_eq_true rfl) ?_
  show ao_W Γ uX12_fails (ao_rm d 0 0) (ao_Q Γ (ao_PI ρ y) 0 0) 0 0 0 [some (.ref (Γ.2.2.2 + r0)), some (.int x1)] [] (M, ρ)
  unfold gX12_fails at h
  refine ao_aload_n 0 dX12_fails_0 rfl rfl ?_
  refine ao_iload_n 1 dX12_fails_1 rfl rfl ?_
  obtain ⟨hk1, h⟩ := ao_some h
  refine an_putI r0 12 0 (q := (RX12, TX12, 83)) dX12_fails_2 rfl hk1 (Nat.le_of_ble_eq_true rfl) lf_X12_1 rfl rfl rfl rfl (fun M2 hM2 => ?_)
  replace h := ao_letD h hM2
  refine ao_iload_n 1 dX12_fails_5 rfl rfl ?_
  refine ao_if_eq 13 dX12_fails_6 (by decide) (fun c3 => ?_) (fun c3 => ?_)
  · replace h := ao_ifT h c3
    refine ao_iconst (v := 0) dX12_fails_13 (by decide) ?_
    cases h
    exact ao_ireturn dX12_fails_14 rfl rfl ⟨rfl, rfl⟩
  · replace h := ao_ifF h c3
    refine ao_iconst (v := 1) dX12_fails_9 (by decide) ?_
    refine ao_goto 14 dX12_fails_10 (by decide) ?_
    cases h
    exact ao_ireturn dX12_fails_14 rfl rfl ⟨rfl, rfl⟩

abbrev uX12_wrong : ao_Mi := (yX12_wrong, cX12_wrong, 2, (some (.object "AsOneHouseModel$Broken")), [])
def gX12_wrong (r0 : Nat) (x1 : Int32) (M : ao_M) (ρ : ao_H) : Option (Nat × ao_M) :=
  if ρ.2.1 r0 = 22 then
  ao_let (ao_u M r0 2 x1) fun M2 =>
  (ρ.1 r0 1).bind fun j3 =>
  some (j3, M2)
  else none
set_option maxRecDepth 100000 in
set_option maxHeartbeats 4000000 in
theorem aX12_wrong {Γ : ao_C} (d : Nat) (hd : 0 ≤ d) (r0 : Nat) (x1 : Int32) (M : ao_M) (ρ : ao_H) {y : Nat × ao_M} (h : gX12_wrong r0 x1 M ρ = some y) : ao_A Γ uX12_wrong d 0 0 [.ref (Γ.2.2.2 + r0), .int x1] (M, ρ) (ao_PR Γ ρ y) := by
  refine ao_of (by decide) (ao_cat1 (Nat.le_of_ble_eq_true rfl)) (Nat.le_of_ble_eq_true rfl) ?_
  show ao_W Γ uX12_wrong (ao_rm d 0 0) (ao_Q Γ (ao_PR Γ ρ y) 0 0) 0 0 0 [some (.ref (Γ.2.2.2 + r0)), some (.int x1)] [] (M, ρ)
  unfold gX12_wrong at h
  refine ao_aload_n 0 dX12_wrong_0 rfl rfl ?_
  refine ao_iload_n 1 dX12_wrong_1 rfl rfl ?_
  obtain ⟨hk1, h⟩ := ao_some h
  refine an_putI r0 12 2 (q := (RX12, TX12, 83)) dX12_wrong_2 rfl hk1 (Nat.le_of_ble_eq_true rfl) lf_X12_7 rfl rfl rfl rfl (fun M2 hM2 => ?_)
  replace h := ao_letD h hM2
  refine ao_aload_n 0 dX12_wrong_5 rfl rfl ?_
  obtain ⟨j3, hj3, h⟩ := ao_bind h
  refine an_getR r0 12 1 (q := (RX12, TX12, 83)) dX12_wrong_6 rfl hk1 (Nat.le_of_ble_eq_true rfl) rfl lf_X12_10 hj3 ?_
  cases h
  exact ao_areturn dX12_wrong_9 rfl (Or.inl ⟨_, rfl⟩) ⟨rfl, rfl⟩

abbrev uX12_longer : ao_Mi := (yX12_longer, cX12_longer, 3, (some (.array .int)), [])
def fX12_longer : Nat → Nat → Nat → Nat → Int32 → Nat →  ao_M → ao_H → Option (Nat × ao_S)
  | 0, _, _, _, _, _, _, _ => none
  | n + 1, pc, r0, r1, x2, q0, M, ρ =>
    if pc = 0 then
      if ρ.2.1 r0 = 0 then
      (ρ.2.2.2.1).bind fun n2 =>
      if ¬ ((2 : Int32) * (nI (ρ.2.2.1 r0))) < 0 ∧ ((2 : Int32) * (nI (ρ.2.2.1 r0))).toNatClampNeg * 8 ≤ 536870912 then
      fX12_longer n 6 r0 0 0 n2 (ao_zr M n2) (ao_nw ρ n2 0 ((2 : Int32) * (nI (ρ.2.2.1 r0))).toNatClampNeg ((2 : Int32) * (nI (ρ.2.2.1 r0))).toNatClampNeg)
      else none
      else none
    else if pc = 6 then
      fX12_longer n 9 r0 q0 (0 : Int32) 0 M ρ
    else if pc = 9 then
      if ρ.2.1 r0 = 0 then
      if (nI (ρ.2.2.1 r0)) ≤ x2 then
        some (r1, M, ρ)
      else
        if ¬ (x2 < 0 ∨ ρ.2.2.1 r0 ≤ x2.toNatClampNeg) then
        if ρ.2.1 r1 = 0 then
        if ¬ (x2 < 0 ∨ ρ.2.2.1 r1 ≤ x2.toNatClampNeg) then
        ao_let (ao_u M r1 x2.toNatClampNeg (M r0 x2.toNatClampNeg)) fun M9 =>
        ao_let (x2 + (1 : Int32)) fun v10 =>
        fX12_longer n 9 r0 r1 v10 0 M9 ρ
        else none
        else none
        else none
      else none
    else none
def gX12_longer (n : Nat) (r0 : Nat) (M : ao_M) (ρ : ao_H) : Option (Nat × ao_S) := fX12_longer n 0 r0 0 0 0 M ρ
set_option maxRecDepth 100000 in
set_option maxHeartbeats 4000000 in
theorem mX12_longer : ∀ n : Nat, (∀ (r0 : Nat) (M : ao_M) (ρ : ao_H) (y : Nat × ao_S), fX12_longer n 0 r0 0 0 0 M ρ = some y → ao_le ρ y.2.2) ∧ (∀ (r0 : Nat) (q0 : Nat) (M : ao_M) (ρ : ao_H) (y : Nat × ao_S), fX12_longer n 6 r0 0 0 q0 M ρ = some y → ao_le ρ y.2.2) ∧ (∀ (r0 : Nat) (r1 : Nat) (x2 : Int32) (M : ao_M) (ρ : ao_H) (y : Nat × ao_S), fX12_longer n 9 r0 r1 x2 0 M ρ = some y → ao_le ρ y.2.2) := by
  intro n
  induction n with
  | zero => exact ⟨fun _ _ _ _ h => ao_no h, fun _ _ _ _ _ h => ao_no h, fun _ _ _ _ _ _ h => ao_no h⟩
  | succ n ih =>
    refine ⟨?_, ?_, ?_⟩
    · intro r0 M ρ y h
      replace h := ao_ifT h rfl
      obtain ⟨-, h⟩ := ao_some h
      obtain ⟨n2, hn2, h⟩ := ao_bind h
      obtain ⟨-, h⟩ := ao_some h
      exact ao_le_tr (ao_le_nw _ _ _ _ _) (ih.2.1 r0 n2 (ao_zr M n2) (ao_nw ρ n2 0 ((2 : Int32) * (nI (ρ.2.2.1 r0))).toNatClampNeg ((2 : Int32) * (nI (ρ.2.2.1 r0))).toNatClampNeg) _ h)
    · intro r0 q0 M ρ y h
      replace h := ao_ifF h (by decide)
      replace h := ao_ifT h rfl
      exact ih.2.2 r0 q0 (0 : Int32) M ρ _ h
    · intro r0 r1 x2 M ρ y h
      replace h := ao_ifF h (by decide)
      replace h := ao_ifF h (by decide)
      replace h := ao_ifT h rfl
      obtain ⟨-, h⟩ := ao_some h
      rcases ao_ifC h with h | h
      · cases h
        exact ao_le_rf _
      · obtain ⟨-, h⟩ := ao_some h
        obtain ⟨-, h⟩ := ao_some h
        obtain ⟨-, h⟩ := ao_some h
        replace h := ao_letD h rfl
        generalize (ao_u M r1 x2.toNatClampNeg (M r0 x2.toNatClampNeg)) = M9 at h
        replace h := ao_letD h rfl
        generalize (x2 + (1 : Int32)) = v10 at h
        exact ih.2.2 r0 r1 v10 M9 ρ _ h
set_option maxRecDepth 100000 in
set_option maxHeartbeats 4000000 in
theorem wX12_longer {Γ : ao_C} (d : Nat) (hd : 0 ≤ d) (MC MS : Nat) : ∀ n : Nat, (∀ (r0 : Nat) (M : ao_M) (ρ : ao_H) (y : Nat × ao_S), fX12_longer n 0 r0 0 0 0 M ρ = some y → ao_W Γ uX12_longer (ao_rm d MC MS) (ao_Q Γ (ao_QR Γ y) MC MS) (ao_dc ρ y.2.2) (ao_ds ρ y.2.2) 0 [some (.ref (Γ.2.2.2 + r0)), none, none] [] (M, ρ)) ∧ (∀ (r0 : Nat) (q0 : Nat) (M : ao_M) (ρ : ao_H) (y : Nat × ao_S), fX12_longer n 6 r0 0 0 q0 M ρ = some y → ao_W Γ uX12_longer (ao_rm d MC MS) (ao_Q Γ (ao_QR Γ y) MC MS) (ao_dc ρ y.2.2) (ao_ds ρ y.2.2) 6 [some (.ref (Γ.2.2.2 + r0)), none, none] [.ref (Γ.2.2.2 + q0)] (M, ρ)) ∧ (∀ (r0 : Nat) (r1 : Nat) (x2 : Int32) (M : ao_M) (ρ : ao_H) (y : Nat × ao_S), fX12_longer n 9 r0 r1 x2 0 M ρ = some y → ao_W Γ uX12_longer (ao_rm d MC MS) (ao_Q Γ (ao_QR Γ y) MC MS) (ao_dc ρ y.2.2) (ao_ds ρ y.2.2) 9 [some (.ref (Γ.2.2.2 + r0)), some (.ref (Γ.2.2.2 + r1)), some (.int x2)] [] (M, ρ)) := by
  intro n
  induction n with
  | zero => exact ⟨fun _ _ _ _ h => ao_no h, fun _ _ _ _ _ h => ao_no h, fun _ _ _ _ _ _ h => ao_no h⟩
  | succ n ih =>
    refine ⟨?_, ?_, ?_⟩
    · intro r0 M ρ y h
      replace h := ao_ifT h rfl
      refine ao_iconst (v := 2) dX12_longer_0 (by decide) ?_
      refine ao_aload_n 0 dX12_longer_1 rfl rfl ?_
      obtain ⟨hk1, h⟩ := ao_some h
      refine an_alen r0 0 dX12_longer_2 hk1 (by decide) ?_
      refine ao_imul dX12_longer_3 ?_
      obtain ⟨n2, hn2, h⟩ := ao_bind h
      obtain ⟨hb3, h⟩ := ao_some h
      refine ba_newa n2 0 dX12_longer_4 rfl (by decide) hn2 lna_0 hb3.1 hb3.2 (ao_dc_nw ((mX12_longer n).2.1 r0 n2 (ao_zr M n2) (ao_nw ρ n2 0 ((2 : Int32) * (nI (ρ.2.2.1 r0))).toNatClampNeg ((2 : Int32) * (nI (ρ.2.2.1 r0))).toNatClampNeg) _ h)) ?_
      exact ih.2.1 r0 n2 (ao_zr M n2) (ao_nw ρ n2 0 ((2 : Int32) * (nI (ρ.2.2.1 r0))).toNatClampNeg ((2 : Int32) * (nI (ρ.2.2.1 r0))).toNatClampNeg) _ h
    · intro r0 q0 M ρ y h
      replace h := ao_ifF h (by decide)
      replace h := ao_ifT h rfl
      refine ao_astore_n 1 (lo' := [some (.ref (Γ.2.2.2 + r0)), some (.ref (Γ.2.2.2 + q0)), none]) dX12_longer_6 rfl (Nat.le_of_ble_eq_true rfl) rfl ?_
      refine ao_iconst (v := 0) dX12_longer_7 (by decide) ?_
      refine ao_istore_n 2 (lo' := [some (.ref (Γ.2.2.2 + r0)), some (.ref (Γ.2.2.2 + q0)), some (.int (0 : Int32))]) dX12_longer_8 rfl (Nat.le_of_ble_eq_true rfl) rfl ?_
      exact ih.2.2 r0 q0 (0 : Int32) M ρ _ h
    · intro r0 r1 x2 M ρ y h
      replace h := ao_ifF h (by decide)
      replace h := ao_ifF h (by decide)
      replace h := ao_ifT h rfl
      refine ao_iload_n 2 dX12_longer_9 rfl rfl ?_
      refine ao_aload_n 0 dX12_longer_10 rfl rfl ?_
      obtain ⟨hk4, h⟩ := ao_some h
      refine an_alen r0 0 dX12_longer_11 hk4 (by decide) ?_
      refine ao_icmp_ge 27 dX12_longer_12 (by decide) (fun c5 => ?_) (fun c5 => ?_)
      · replace h := ao_ifT h c5
        refine ao_aload_n 1 dX12_longer_27 rfl rfl ?_
        cases h
        exact ao_areturn dX12_longer_28 rfl (Or.inr ⟨_, rfl⟩) ⟨rfl, rfl⟩
      · replace h := ao_ifF h c5
        refine ao_aload_n 1 dX12_longer_15 rfl rfl ?_
        refine ao_iload_n 2 dX12_longer_16 rfl rfl ?_
        refine ao_aload_n 0 dX12_longer_17 rfl rfl ?_
        refine ao_iload_n 2 dX12_longer_18 rfl rfl ?_
        obtain ⟨hb6, h⟩ := ao_some h
        refine an_iaload r0 dX12_longer_19 hk4 hb6 ?_
        obtain ⟨hk7, h⟩ := ao_some h
        obtain ⟨hb8, h⟩ := ao_some h
        refine an_iastore r1 dX12_longer_20 hk7 hb8 (fun M9 hM9 => ?_)
        replace h := ao_letD h hM9
        obtain ⟨v10, hv10⟩ : ∃ z : Int32, z = x2 + (1 : Int32) := ⟨_, rfl⟩
        replace h := ao_letD h hv10
        refine ao_iinc 2 (v := v10) (lo' := [some (.ref (Γ.2.2.2 + r0)), some (.ref (Γ.2.2.2 + r1)), some (.int v10)]) dX12_longer_21 rfl (by rw [hv10]; rfl) (Nat.le_of_ble_eq_true rfl) rfl ?_
        refine ao_goto 9 dX12_longer_24 (by decide) ?_
        exact ih.2.2 r0 r1 v10 M9 ρ _ h
theorem me_X12_longer (n : Nat) (r0 : Nat) (M : ao_M) (ρ : ao_H) {y : Nat × ao_S} (h : gX12_longer n r0 M ρ = some y) : ao_le ρ y.2.2 := (mX12_longer n).1 r0 M ρ y h
set_option maxRecDepth 100000 in
set_option maxHeartbeats 4000000 in
theorem aX12_longer {Γ : ao_C} (d : Nat) (hd : 0 ≤ d) (n : Nat) (r0 : Nat) (M : ao_M) (ρ : ao_H) {y : Nat × ao_S} (h : gX12_longer n r0 M ρ = some y) : ao_A Γ uX12_longer d (ao_dc ρ y.2.2) (ao_ds ρ y.2.2) [.ref (Γ.2.2.2 + r0)] (M, ρ) (ao_QR Γ y) := by
  refine ao_of (by decide) (ao_cat1 (Nat.le_of_ble_eq_true rfl)) (Nat.le_of_ble_eq_true rfl) ?_
  show ao_W Γ uX12_longer (ao_rm d (ao_dc ρ y.2.2) (ao_ds ρ y.2.2)) (ao_Q Γ (ao_QR Γ y) (ao_dc ρ y.2.2) (ao_ds ρ y.2.2)) (ao_dc ρ y.2.2) (ao_ds ρ y.2.2) 0 [some (.ref (Γ.2.2.2 + r0)), none, none] [] (M, ρ)
  exact (wX12_longer d hd _ _ n).1 r0 M ρ y h

abbrev uX12_byteAt : ao_Mi := (yX12_byteAt, cX12_byteAt, 2, (some .int), [])
def gX12_byteAt (r0 : Nat) (x1 : Int32) (M : ao_M) (ρ : ao_H) : Option (Int32 × ao_M) :=
  if ρ.2.1 r0 = 22 then
  if (M r0 7) ≤ x1 then
    some ((-1 : Int32), M)
  else
    (ρ.1 r0 5).bind fun j3 =>
    if ρ.2.1 j3 = 1 then
    if ¬ (x1 < 0 ∨ ρ.2.2.1 j3 ≤ x1.toNatClampNeg) then
    some ((M j3 x1.toNatClampNeg), M)
    else none
    else none
  else none
set_option maxRecDepth 100000 in
set_option maxHeartbeats 4000000 in
theorem aX12_byteAt {Γ : ao_C} (d : Nat) (hd : 0 ≤ d) (r0 : Nat) (x1 : Int32) (M : ao_M) (ρ : ao_H) {y : Int32 × ao_M} (h : gX12_byteAt r0 x1 M ρ = some y) : ao_A Γ uX12_byteAt d 0 0 [.ref (Γ.2.2.2 + r0), .int x1] (M, ρ) (ao_PI ρ y) := by
  refine ao_of (by decide) (ao_cat1 (Nat.le_of_ble_eq_true rfl)) (Nat.le_of_ble_eq_true rfl) ?_
  show ao_W Γ uX12_byteAt (ao_rm d 0 0) (ao_Q Γ (ao_PI ρ y) 0 0) 0 0 0 [some (.ref (Γ.2.2.2 + r0)), some (.int x1)] [] (M, ρ)
  unfold gX12_byteAt at h
  refine ao_iload_n 1 dX12_byteAt_0 rfl rfl ?_
  refine ao_aload_n 0 dX12_byteAt_1 rfl rfl ?_
  obtain ⟨hk1, h⟩ := ao_some h
  refine an_getI r0 12 7 (q := (RX12, TX12, 83)) dX12_byteAt_2 rfl hk1 (Nat.le_of_ble_eq_true rfl) rfl lf_X12_14 ?_
  refine ao_icmp_ge 17 dX12_byteAt_5 (by decide) (fun c2 => ?_) (fun c2 => ?_)
  · replace h := ao_ifT h c2
    refine ao_iconst (v := (-1)) dX12_byteAt_17 (by decide) ?_
    cases h
    exact ao_ireturn dX12_byteAt_18 rfl rfl ⟨rfl, rfl⟩
  · replace h := ao_ifF h c2
    refine ao_aload_n 0 dX12_byteAt_8 rfl rfl ?_
    obtain ⟨j3, hj3, h⟩ := ao_bind h
    refine an_getR r0 12 5 (q := (RX12, TX12, 83)) dX12_byteAt_9 rfl hk1 (Nat.le_of_ble_eq_true rfl) rfl lf_X12_17 hj3 ?_
    refine ao_iload_n 1 dX12_byteAt_12 rfl rfl ?_
    obtain ⟨hk4, h⟩ := ao_some h
    obtain ⟨hb5, h⟩ := ao_some h
    refine an_baload j3 dX12_byteAt_13 hk4 hb5 ?_
    refine ao_goto 18 dX12_byteAt_14 (by decide) ?_
    cases h
    exact ao_ireturn dX12_byteAt_18 rfl rfl ⟨rfl, rfl⟩

abbrev uX12_isLetter : ao_Mi := (yX12_isLetter, cX12_isLetter, 1, (some .boolean), [])
def fX12_isLetter : Nat → Nat → Int32 →  ao_M → ao_H → Option (Int32 × ao_M)
  | 0, _, _, _, _ => none
  | n + 1, pc, x0, M, ρ =>
    if pc = 0 then
      if x0 < (97 : Int32) then
        fX12_isLetter n 12 x0 M ρ
      else
        if x0 ≤ (122 : Int32) then
          fX12_isLetter n 24 x0 M ρ
        else
          fX12_isLetter n 12 x0 M ρ
    else if pc = 12 then
      if x0 < (65 : Int32) then
        some ((0 : Int32), M)
      else
        if (90 : Int32) < x0 then
          some ((0 : Int32), M)
        else
          fX12_isLetter n 24 x0 M ρ
    else if pc = 24 then
      some ((1 : Int32), M)
    else none
def gX12_isLetter (n : Nat) (x0 : Int32) (M : ao_M) (ρ : ao_H) : Option (Int32 × ao_M) := fX12_isLetter n 0 x0 M ρ
set_option maxRecDepth 100000 in
set_option maxHeartbeats 4000000 in
theorem wX12_isLetter {Γ : ao_C} {ρ : ao_H} (d : Nat) (hd : 0 ≤ d) : ∀ n : Nat, (∀ (x0 : Int32) (M : ao_M) (y : Int32 × ao_M), fX12_isLetter n 0 x0 M ρ = some y → ao_W Γ uX12_isLetter (ao_rm d 0 0) (ao_Q Γ (ao_PI ρ y) 0 0) 0 0 0 [some (.int x0)] [] (M, ρ)) ∧ (∀ (x0 : Int32) (M : ao_M) (y : Int32 × ao_M), fX12_isLetter n 12 x0 M ρ = some y → ao_W Γ uX12_isLetter (ao_rm d 0 0) (ao_Q Γ (ao_PI ρ y) 0 0) 0 0 12 [some (.int x0)] [] (M, ρ)) ∧ (∀ (x0 : Int32) (M : ao_M) (y : Int32 × ao_M), fX12_isLetter n 24 x0 M ρ = some y → ao_W Γ uX12_isLetter (ao_rm d 0 0) (ao_Q Γ (ao_PI ρ y) 0 0) 0 0 24 [some (.int x0)] [] (M, ρ)) := by
  intro n
  induction n with
  | zero => exact ⟨fun _ _ _ h => ao_no h, fun _ _ _ h => ao_no h, fun _ _ _ h => ao_no h⟩
  | succ n ih =>
    refine ⟨?_, ?_, ?_⟩
    · intro x0 M y h
      replace h := ao_ifT h rfl
      refine ao_iload_n 0 dX12_isLetter_0 rfl rfl ?_
      refine ao_bipush (v := 97) dX12_isLetter_1 (by decide) ?_
      refine ao_icmp_lt 12 dX12_isLetter_3 (by decide) (fun c1 => ?_) (fun c1 => ?_)
      · replace h := ao_ifT h c1
        exact ih.2.1 x0 M _ h
      · replace h := ao_ifF h c1
        refine ao_iload_n 0 dX12_isLetter_6 rfl rfl ?_
        refine ao_bipush (v := 122) dX12_isLetter_7 (by decide) ?_
        refine ao_icmp_le 24 dX12_isLetter_9 (by decide) (fun c2 => ?_) (fun c2 => ?_)
        · replace h := ao_ifT h c2
          exact ih.2.2 x0 M _ h
        · replace h := ao_ifF h c2
          exact ih.2.1 x0 M _ h
    · intro x0 M y h
      replace h := ao_ifF h (by decide)
      replace h := ao_ifT h rfl
      refine ao_iload_n 0 dX12_isLetter_12 rfl rfl ?_
      refine ao_bipush (v := 65) dX12_isLetter_13 (by decide) ?_
      refine ao_icmp_lt 28 dX12_isLetter_15 (by decide) (fun c3 => ?_) (fun c3 => ?_)
      · replace h := ao_ifT h c3
        refine ao_iconst (v := 0) dX12_isLetter_28 (by decide) ?_
        cases h
        exact ao_ireturn dX12_isLetter_29 rfl rfl ⟨rfl, rfl⟩
      · replace h := ao_ifF h c3
        refine ao_iload_n 0 dX12_isLetter_18 rfl rfl ?_
        refine ao_bipush (v := 90) dX12_isLetter_19 (by decide) ?_
        refine ao_icmp_gt 28 dX12_isLetter_21 (by decide) (fun c4 => ?_) (fun c4 => ?_)
        · replace h := ao_ifT h c4
          refine ao_iconst (v := 0) dX12_isLetter_28 (by decide) ?_
          cases h
          exact ao_ireturn dX12_isLetter_29 rfl rfl ⟨rfl, rfl⟩
        · replace h := ao_ifF h c4
          exact ih.2.2 x0 M _ h
    · intro x0 M y h
      replace h := ao_ifF h (by decide)
      replace h := ao_ifF h (by decide)
      replace h := ao_ifT h rfl
      refine ao_iconst (v := 1) dX12_isLetter_24 (by decide) ?_
      refine ao_goto 29 dX12_isLetter_25 (by decide) ?_
      cases h
      exact ao_ireturn dX12_isLetter_29 rfl rfl ⟨rfl, rfl⟩
set_option maxRecDepth 100000 in
set_option maxHeartbeats 4000000 in
theorem aX12_isLetter {Γ : ao_C} (d : Nat) (hd : 0 ≤ d) (n : Nat) (x0 : Int32) (M : ao_M) (ρ : ao_H) {y : Int32 × ao_M} (h : gX12_isLetter n x0 M ρ = some y) : ao_A Γ uX12_isLetter d 0 0 [.int x0] (M, ρ) (ao_PI ρ y) := by
  refine ao_of (by decide) (ao_cat1 (Nat.le_of_ble_eq_true rfl)) (Nat.le_of_ble_eq_true rfl) ?_
  show ao_W Γ uX12_isLetter (ao_rm d 0 0) (ao_Q Γ (ao_PI ρ y) 0 0) 0 0 0 [some (.int x0)] [] (M, ρ)
  exact (wX12_isLetter d hd n).1 x0 M y h

abbrev uX12_isDigit : ao_Mi := (yX12_isDigit, cX12_isDigit, 1, (some .boolean), [])
def gX12_isDigit (x0 : Int32) (M : ao_M) (ρ : ao_H) : Option (Int32 × ao_M) :=
  if x0 < (48 : Int32) then
    some ((0 : Int32), M)
  else
    if (57 : Int32) < x0 then
      some ((0 : Int32), M)
    else
      some ((1 : Int32), M)
set_option maxRecDepth 100000 in
set_option maxHeartbeats 4000000 in
theorem aX12_isDigit {Γ : ao_C} (d : Nat) (hd : 0 ≤ d) (x0 : Int32) (M : ao_M) (ρ : ao_H) {y : Int32 × ao_M} (h : gX12_isDigit x0 M ρ = some y) : ao_A Γ uX12_isDigit d 0 0 [.int x0] (M, ρ) (ao_PI ρ y) := by
  refine ao_of (by decide) (ao_cat1 (Nat.le_of_ble_eq_true rfl)) (Nat.le_of_ble_eq_true rfl) ?_
  show ao_W Γ uX12_isDigit (ao_rm d 0 0) (ao_Q Γ (ao_PI ρ y) 0 0) 0 0 0 [some (.int x0)] [] (M, ρ)
  unfold gX12_isDigit at h
  refine ao_iload_n 0 dX12_isDigit_0 rfl rfl ?_
  refine ao_bipush (v := 48) dX12_isDigit_1 (by decide) ?_
  refine ao_icmp_lt 16 dX12_isDigit_3 (by decide) (fun c1 => ?_) (fun c1 => ?_)
  · replace h := ao_ifT h c1
    refine ao_iconst (v := 0) dX12_isDigit_16 (by decide) ?_
    cases h
    exact ao_ireturn dX12_isDigit_17 rfl rfl ⟨rfl, rfl⟩
  · replace h := ao_ifF h c1
    refine ao_iload_n 0 dX12_isDigit_6 rfl rfl ?_
    refine ao_bipush (v := 57) dX12_isDigit_7 (by decide) ?_
    refine ao_icmp_gt 16 dX12_isDigit_9 (by decide) (fun c2 => ?_) (fun c2 => ?_)
    · replace h := ao_ifT h c2
      refine ao_iconst (v := 0) dX12_isDigit_16 (by decide) ?_
      cases h
      exact ao_ireturn dX12_isDigit_17 rfl rfl ⟨rfl, rfl⟩
    · replace h := ao_ifF h c2
      refine ao_iconst (v := 1) dX12_isDigit_12 (by decide) ?_
      refine ao_goto 17 dX12_isDigit_13 (by decide) ?_
      cases h
      exact ao_ireturn dX12_isDigit_17 rfl rfl ⟨rfl, rfl⟩

abbrev uX12_wordOf : ao_Mi := (yX12_wordOf, cX12_wordOf, 8, (some .int), [])
def fX12_wordOf : Nat → Nat → Nat → Int32 → Int32 → Int32 → Int32 → Int32 → Int32 → Int32 → Int32 →  ao_M → ao_H → Option (Int32 × ao_M)
  | 0, _, _, _, _, _, _, _, _, _, _, _, _ => none
  | n + 1, pc, r0, x1, x2, x3, x4, x5, x6, x7, s0, M, ρ =>
    if pc = 0 then
      fX12_wordOf n 8 r0 x1 x2 (0 : Int32) (0 : Int32) (0 : Int32) 0 0 0 M ρ
    else if pc = 8 then
      if (nI (ao_len.getD 12 0)) ≤ x5 then
        some ((-1 : Int32), M)
      else
        if ¬ (x5 < 0 ∨ ao_len.getD 12 0 ≤ x5.toNatClampNeg) then
        if (ao_chr 12 x5) = (32 : Int32) then
          if (x5 - x4) = x2 then
            fX12_wordOf n 47 r0 x1 x2 x3 x4 x5 0 0 (1 : Int32) M ρ
          else
            fX12_wordOf n 47 r0 x1 x2 x3 x4 x5 0 0 (0 : Int32) M ρ
        else
          fX12_wordOf n 114 r0 x1 x2 x3 x4 x5 0 0 0 M ρ
        else none
    else if pc = 47 then
      fX12_wordOf n 52 r0 x1 x2 x3 x4 x5 s0 (0 : Int32) 0 M ρ
    else if pc = 52 then
      if x2 ≤ x7 then
        fX12_wordOf n 98 r0 x1 x2 x3 x4 x5 x6 x7 0 M ρ
      else
        if x6 = 0 then
          fX12_wordOf n 98 r0 x1 x2 x3 x4 x5 x6 x7 0 M ρ
        else
          if ¬ ((x4 + x7) < 0 ∨ ao_len.getD 12 0 ≤ (x4 + x7).toNatClampNeg) then
          if ρ.2.1 r0 = 22 then
          (ρ.1 r0 5).bind fun j9 =>
          if ρ.2.1 j9 = 1 then
          if ¬ ((x1 + x7) < 0 ∨ ρ.2.2.1 j9 ≤ (x1 + x7).toNatClampNeg) then
          if (ao_chr 12 (x4 + x7)) = (M j9 (x1 + x7).toNatClampNeg) then
            fX12_wordOf n 90 r0 x1 x2 x3 x4 x5 x6 x7 (1 : Int32) M ρ
          else
            fX12_wordOf n 90 r0 x1 x2 x3 x4 x5 x6 x7 (0 : Int32) M ρ
          else none
          else none
          else none
          else none
    else if pc = 90 then
      ao_let (x7 + (1 : Int32)) fun v13 =>
      fX12_wordOf n 52 r0 x1 x2 x3 x4 x5 s0 v13 0 M ρ
    else if pc = 98 then
      if x6 = 0 then
        ao_let (x3 + (1 : Int32)) fun v15 =>
        ao_let (x5 + (1 : Int32)) fun v16 =>
        fX12_wordOf n 114 r0 x1 x2 v15 v16 x5 0 0 0 M ρ
      else
        some (x3, M)
    else if pc = 114 then
      ao_let (x5 + (1 : Int32)) fun v17 =>
      fX12_wordOf n 8 r0 x1 x2 x3 x4 v17 0 0 0 M ρ
    else none
def gX12_wordOf (n : Nat) (r0 : Nat) (x1 : Int32) (x2 : Int32) (M : ao_M) (ρ : ao_H) : Option (Int32 × ao_M) := fX12_wordOf n 0 r0 x1 x2 0 0 0 0 0 0 M ρ
set_option maxRecDepth 100000 in
set_option maxHeartbeats 4000000 in
theorem wX12_wordOf {Γ : ao_C} {ρ : ao_H} (d : Nat) (hd : 4 ≤ d) : ∀ n : Nat, (∀ (r0 : Nat) (x1 : Int32) (x2 : Int32) (M : ao_M) (y : Int32 × ao_M), fX12_wordOf n 0 r0 x1 x2 0 0 0 0 0 0 M ρ = some y → ao_W Γ uX12_wordOf (ao_rm d 0 0) (ao_Q Γ (ao_PI ρ y) 0 0) 0 0 0 [some (.ref (Γ.2.2.2 + r0)), some (.int x1), some (.int x2), none, none, none, none, none] [] (M, ρ)) ∧ (∀ (r0 : Nat) (x1 : Int32) (x2 : Int32) (x3 : Int32) (x4 : Int32) (x5 : Int32) (M : ao_M) (y : Int32 × ao_M), fX12_wordOf n 8 r0 x1 x2 x3 x4 x5 0 0 0 M ρ = some y → ao_W Γ uX12_wordOf (ao_rm d 0 0) (ao_Q Γ (ao_PI ρ y) 0 0) 0 0 8 [some (.ref (Γ.2.2.2 + r0)), some (.int x1), some (.int x2), some (.int x3), some (.int x4), some (.int x5), none, none] [] (M, ρ)) ∧ (∀ (r0 : Nat) (x1 : Int32) (x2 : Int32) (x3 : Int32) (x4 : Int32) (x5 : Int32) (s0 : Int32) (M : ao_M) (y : Int32 × ao_M), fX12_wordOf n 47 r0 x1 x2 x3 x4 x5 0 0 s0 M ρ = some y → ao_W Γ uX12_wordOf (ao_rm d 0 0) (ao_Q Γ (ao_PI ρ y) 0 0) 0 0 47 [some (.ref (Γ.2.2.2 + r0)), some (.int x1), some (.int x2), some (.int x3), some (.int x4), some (.int x5), none, none] [.int s0] (M, ρ)) ∧ (∀ (r0 : Nat) (x1 : Int32) (x2 : Int32) (x3 : Int32) (x4 : Int32) (x5 : Int32) (x6 : Int32) (x7 : Int32) (M : ao_M) (y : Int32 × ao_M), fX12_wordOf n 52 r0 x1 x2 x3 x4 x5 x6 x7 0 M ρ = some y → ao_W Γ uX12_wordOf (ao_rm d 0 0) (ao_Q Γ (ao_PI ρ y) 0 0) 0 0 52 [some (.ref (Γ.2.2.2 + r0)), some (.int x1), some (.int x2), some (.int x3), some (.int x4), some (.int x5), some (.int x6), some (.int x7)] [] (M, ρ)) ∧ (∀ (r0 : Nat) (x1 : Int32) (x2 : Int32) (x3 : Int32) (x4 : Int32) (x5 : Int32) (x6 : Int32) (x7 : Int32) (s0 : Int32) (M : ao_M) (y : Int32 × ao_M), fX12_wordOf n 90 r0 x1 x2 x3 x4 x5 x6 x7 s0 M ρ = some y → ao_W Γ uX12_wordOf (ao_rm d 0 0) (ao_Q Γ (ao_PI ρ y) 0 0) 0 0 90 [some (.ref (Γ.2.2.2 + r0)), some (.int x1), some (.int x2), some (.int x3), some (.int x4), some (.int x5), some (.int x6), some (.int x7)] [.int s0] (M, ρ)) ∧ (∀ (r0 : Nat) (x1 : Int32) (x2 : Int32) (x3 : Int32) (x4 : Int32) (x5 : Int32) (x6 : Int32) (x7 : Int32) (M : ao_M) (y : Int32 × ao_M), fX12_wordOf n 98 r0 x1 x2 x3 x4 x5 x6 x7 0 M ρ = some y → ao_W Γ uX12_wordOf (ao_rm d 0 0) (ao_Q Γ (ao_PI ρ y) 0 0) 0 0 98 [some (.ref (Γ.2.2.2 + r0)), some (.int x1), some (.int x2), some (.int x3), some (.int x4), some (.int x5), some (.int x6), some (.int x7)] [] (M, ρ)) ∧ (∀ (r0 : Nat) (x1 : Int32) (x2 : Int32) (x3 : Int32) (x4 : Int32) (x5 : Int32) (M : ao_M) (y : Int32 × ao_M), fX12_wordOf n 114 r0 x1 x2 x3 x4 x5 0 0 0 M ρ = some y → ao_W Γ uX12_wordOf (ao_rm d 0 0) (ao_Q Γ (ao_PI ρ y) 0 0) 0 0 114 [some (.ref (Γ.2.2.2 + r0)), some (.int x1), some (.int x2), some (.int x3), some (.int x4), some (.int x5), none, none] [] (M, ρ)) := by
  intro n
  induction n with
  | zero => exact ⟨fun _ _ _ _ _ h => ao_no h, fun _ _ _ _ _ _ _ _ h => ao_no h, fun _ _ _ _ _ _ _ _ _ h => ao_no h, fun _ _ _ _ _ _ _ _ _ _ h => ao_no h, fun _ _ _ _ _ _ _ _ _ _ _ h => ao_no h, fun _ _ _ _ _ _ _ _ _ _ h => ao_no h, fun _ _ _ _ _ _ _ _ h => ao_no h⟩
  | succ n ih =>
    refine ⟨?_, ?_, ?_, ?_, ?_, ?_, ?_⟩
    · intro r0 x1 x2 M y h
      replace h := ao_ifT h rfl
      refine ao_iconst (v := 0) dX12_wordOf_0 (by decide) ?_
      refine ao_istore_n 3 (lo' := [some (.ref (Γ.2.2.2 + r0)), some (.int x1), some (.int x2), some (.int (0 : Int32)), none, none, none, none]) dX12_wordOf_1 rfl (Nat.le_of_ble_eq_true rfl) rfl ?_
      refine ao_iconst (v := 0) dX12_wordOf_2 (by decide) ?_
      refine ao_istore 4 (lo' := [some (.ref (Γ.2.2.2 + r0)), some (.int x1), some (.int x2), some (.int (0 : Int32)), some (.int (0 : Int32)), none, none, none]) dX12_wordOf_3 (Nat.le_of_ble_eq_true rfl) rfl ?_
      refine ao_iconst (v := 0) dX12_wordOf_5 (by decide) ?_
      refine ao_istore 5 (lo' := [some (.ref (Γ.2.2.2 + r0)), some (.int x1), some (.int x2), some (.int (0 : Int32)), some (.int (0 : Int32)), some (.int (0 : Int32)), none, none]) dX12_wordOf_6 (Nat.le_of_ble_eq_true rfl) rfl ?_
      exact ih.2.1 r0 x1 x2 (0 : Int32) (0 : Int32) (0 : Int32) M _ h
    · intro r0 x1 x2 x3 x4 x5 M y h
      replace h := ao_ifF h (by decide)
      replace h := ao_ifT h rfl
      refine ao_iload 5 dX12_wordOf_8 rfl ?_
      refine at_ldc 12 rfl dX12_wordOf_10 ⟨rfl, rfl⟩ ?_
      refine at_len 12 (by decide) (d := d - 1) dX12_wordOf_12 lc_X12_23 (Nat.le_of_ble_eq_true rfl) (by omega) (ao_hR (by omega) (by decide)) ?_
      refine ao_icmp_ge 120 dX12_wordOf_15 (by decide) (fun c1 => ?_) (fun c1 => ?_)
      · replace h := ao_ifT h c1
        refine ao_iconst (v := (-1)) dX12_wordOf_120 (by decide) ?_
        cases h
        exact ao_ireturn dX12_wordOf_121 rfl rfl ⟨rfl, rfl⟩
      · replace h := ao_ifF h c1
        refine at_ldc 12 rfl dX12_wordOf_18 ⟨rfl, rfl⟩ ?_
        refine ao_iload 5 dX12_wordOf_20 rfl ?_
        obtain ⟨hb2, h⟩ := ao_some h
        refine at_charAt 12 (by decide) (d := d - 1) hb2 dX12_wordOf_22 lc_X12_28 (Nat.le_of_ble_eq_true rfl) (by omega) (ao_hR (by omega) (by decide)) ?_
        refine ao_bipush (v := 32) dX12_wordOf_25 (by decide) ?_
        refine ao_icmp_eq 33 dX12_wordOf_27 (by decide) (fun c3 => ?_) (fun c3 => ?_)
        · replace h := ao_ifT h c3
          refine ao_iload 5 dX12_wordOf_33 rfl ?_
          refine ao_iload 4 dX12_wordOf_35 rfl ?_
          refine ao_isub dX12_wordOf_37 ?_
          refine ao_iload_n 2 dX12_wordOf_38 rfl rfl ?_
          refine ao_icmp_ne 46 dX12_wordOf_39 (by decide) (fun c4 => ?_) (fun c4 => ?_)
          · replace h := ao_ifF h c4
            refine ao_iconst (v := 0) dX12_wordOf_46 (by decide) ?_
            exact ih.2.2.1 r0 x1 x2 x3 x4 x5 (0 : Int32) M _ h
          · replace h := ao_ifT h c4
            refine ao_iconst (v := 1) dX12_wordOf_42 (by decide) ?_
            refine ao_goto 47 dX12_wordOf_43 (by decide) ?_
            exact ih.2.2.1 r0 x1 x2 x3 x4 x5 (1 : Int32) M _ h
        · replace h := ao_ifF h c3
          refine ao_goto 114 dX12_wordOf_30 (by decide) ?_
          exact ih.2.2.2.2.2.2 r0 x1 x2 x3 x4 x5 M _ h
    · intro r0 x1 x2 x3 x4 x5 s0 M y h
      replace h := ao_ifF h (by decide)
      replace h := ao_ifF h (by decide)
      replace h := ao_ifT h rfl
      refine ao_istore 6 (lo' := [some (.ref (Γ.2.2.2 + r0)), some (.int x1), some (.int x2), some (.int x3), some (.int x4), some (.int x5), some (.int s0), none]) dX12_wordOf_47 (Nat.le_of_ble_eq_true rfl) rfl ?_
      refine ao_iconst (v := 0) dX12_wordOf_49 (by decide) ?_
      refine ao_istore 7 (lo' := [some (.ref (Γ.2.2.2 + r0)), some (.int x1), some (.int x2), some (.int x3), some (.int x4), some (.int x5), some (.int s0), some (.int (0 : Int32))]) dX12_wordOf_50 (Nat.le_of_ble_eq_true rfl) rfl ?_
      exact ih.2.2.2.1 r0 x1 x2 x3 x4 x5 s0 (0 : Int32) M _ h
    · intro r0 x1 x2 x3 x4 x5 x6 x7 M y h
      replace h := ao_ifF h (by decide)
      replace h := ao_ifF h (by decide)
      replace h := ao_ifF h (by decide)
      replace h := ao_ifT h rfl
      refine ao_iload 7 dX12_wordOf_52 rfl ?_
      refine ao_iload_n 2 dX12_wordOf_54 rfl rfl ?_
      refine ao_icmp_ge 98 dX12_wordOf_55 (by decide) (fun c5 => ?_) (fun c5 => ?_)
      · replace h := ao_ifT h c5
        exact ih.2.2.2.2.2.1 r0 x1 x2 x3 x4 x5 x6 x7 M _ h
      · replace h := ao_ifF h c5
        refine ao_iload 6 dX12_wordOf_58 rfl ?_
        refine ao_if_eq 98 dX12_wordOf_60 (by decide) (fun c6 => ?_) (fun c6 => ?_)
        · replace h := ao_ifT h c6
          exact ih.2.2.2.2.2.1 r0 x1 x2 x3 x4 x5 x6 x7 M _ h
        · replace h := ao_ifF h c6
          refine at_ldc 12 rfl dX12_wordOf_63 ⟨rfl, rfl⟩ ?_
          refine ao_iload 4 dX12_wordOf_65 rfl ?_
          refine ao_iload 7 dX12_wordOf_67 rfl ?_
          refine ao_iadd dX12_wordOf_69 ?_
          obtain ⟨hb7, h⟩ := ao_some h
          refine at_charAt 12 (by decide) (d := d - 1) hb7 dX12_wordOf_70 lc_X12_28 (Nat.le_of_ble_eq_true rfl) (by omega) (ao_hR (by omega) (by decide)) ?_
          refine ao_aload_n 0 dX12_wordOf_73 rfl rfl ?_
          obtain ⟨hk8, h⟩ := ao_some h
          obtain ⟨j9, hj9, h⟩ := ao_bind h
          refine an_getR r0 12 5 (q := (RX12, TX12, 83)) dX12_wordOf_74 rfl hk8 (Nat.le_of_ble_eq_true rfl) rfl lf_X12_17 hj9 ?_
          refine ao_iload_n 1 dX12_wordOf_77 rfl rfl ?_
          refine ao_iload 7 dX12_wordOf_78 rfl ?_
          refine ao_iadd dX12_wordOf_80 ?_
          obtain ⟨hk10, h⟩ := ao_some h
          obtain ⟨hb11, h⟩ := ao_some h
          refine an_baload j9 dX12_wordOf_81 hk10 hb11 ?_
          refine ao_icmp_ne 89 dX12_wordOf_82 (by decide) (fun c12 => ?_) (fun c12 => ?_)
          · replace h := ao_ifF h c12
            refine ao_iconst (v := 0) dX12_wordOf_89 (by decide) ?_
            exact ih.2.2.2.2.1 r0 x1 x2 x3 x4 x5 x6 x7 (0 : Int32) M _ h
          · replace h := ao_ifT h c12
            refine ao_iconst (v := 1) dX12_wordOf_85 (by decide) ?_
            refine ao_goto 90 dX12_wordOf_86 (by decide) ?_
            exact ih.2.2.2.2.1 r0 x1 x2 x3 x4 x5 x6 x7 (1 : Int32) M _ h
    · intro r0 x1 x2 x3 x4 x5 x6 x7 s0 M y h
      replace h := ao_ifF h (by decide)
      replace h := ao_ifF h (by decide)
      replace h := ao_ifF h (by decide)
      replace h := ao_ifF h (by decide)
      replace h := ao_ifT h rfl
      refine ao_istore 6 (lo' := [some (.ref (Γ.2.2.2 + r0)), some (.int x1), some (.int x2), some (.int x3), some (.int x4), some (.int x5), some (.int s0), some (.int x7)]) dX12_wordOf_90 (Nat.le_of_ble_eq_true rfl) rfl ?_
      obtain ⟨v13, hv13⟩ : ∃ z : Int32, z = x7 + (1 : Int32) := ⟨_, rfl⟩
      replace h := ao_letD h hv13
      refine ao_iinc 7 (v := v13) (lo' := [some (.ref (Γ.2.2.2 + r0)), some (.int x1), some (.int x2), some (.int x3), some (.int x4), some (.int x5), some (.int s0), some (.int v13)]) dX12_wordOf_92 rfl (by rw [hv13]; rfl) (Nat.le_of_ble_eq_true rfl) rfl ?_
      refine ao_goto 52 dX12_wordOf_95 (by decide) ?_
      exact ih.2.2.2.1 r0 x1 x2 x3 x4 x5 s0 v13 M _ h
    · intro r0 x1 x2 x3 x4 x5 x6 x7 M y h
      replace h := ao_ifF h (by decide)
      replace h := ao_ifF h (by decide)
      replace h := ao_ifF h (by decide)
      replace h := ao_ifF h (by decide)
      replace h := ao_ifF h (by decide)
      replace h := ao_ifT h rfl
      refine ao_iload 6 dX12_wordOf_98 rfl ?_
      refine ao_if_eq 105 dX12_wordOf_100 (by decide) (fun c14 => ?_) (fun c14 => ?_)
      · replace h := ao_ifT h c14
        obtain ⟨v15, hv15⟩ : ∃ z : Int32, z = x3 + (1 : Int32) := ⟨_, rfl⟩
        replace h := ao_letD h hv15
        refine ao_iinc 3 (v := v15) (lo' := [some (.ref (Γ.2.2.2 + r0)), some (.int x1), some (.int x2), some (.int v15), some (.int x4), some (.int x5), some (.int x6), some (.int x7)]) dX12_wordOf_105 rfl (by rw [hv15]; rfl) (Nat.le_of_ble_eq_true rfl) rfl ?_
        refine ao_iload 5 dX12_wordOf_108 rfl ?_
        refine ao_iconst (v := 1) dX12_wordOf_110 (by decide) ?_
        refine ao_iadd dX12_wordOf_111 ?_
        refine an_topi (fun v16 hv16 => ?_)
        replace h := ao_letD h hv16
        refine ao_istore 4 (lo' := [some (.ref (Γ.2.2.2 + r0)), some (.int x1), some (.int x2), some (.int v15), some (.int v16), some (.int x5), some (.int x6), some (.int x7)]) dX12_wordOf_112 (Nat.le_of_ble_eq_true rfl) rfl ?_
        refine ao_loForget (lo' := [some (.ref (Γ.2.2.2 + r0)), some (.int x1), some (.int x2), some (.int v15), some (.int v16), some (.int x5), none, none]) (ao_fgS (ao_fgS (ao_fgS (ao_fgS (ao_fgS (ao_fgS (ao_fgN (ao_fgN ao_fgZ)))))))) ?_
        exact ih.2.2.2.2.2.2 r0 x1 x2 v15 v16 x5 M _ h
      · replace h := ao_ifF h c14
        refine ao_iload_n 3 dX12_wordOf_103 rfl rfl ?_
        cases h
        exact ao_ireturn dX12_wordOf_104 rfl rfl ⟨rfl, rfl⟩
    · intro r0 x1 x2 x3 x4 x5 M y h
      replace h := ao_ifF h (by decide)
      replace h := ao_ifF h (by decide)
      replace h := ao_ifF h (by decide)
      replace h := ao_ifF h (by decide)
      replace h := ao_ifF h (by decide)
      replace h := ao_ifF h (by decide)
      replace h := ao_ifT h rfl
      obtain ⟨v17, hv17⟩ : ∃ z : Int32, z = x5 + (1 : Int32) := ⟨_, rfl⟩
      replace h := ao_letD h hv17
      refine ao_iinc 5 (v := v17) (lo' := [some (.ref (Γ.2.2.2 + r0)), some (.int x1), some (.int x2), some (.int x3), some (.int x4), some (.int v17), none, none]) dX12_wordOf_114 rfl (by rw [hv17]; rfl) (Nat.le_of_ble_eq_true rfl) rfl ?_
      refine ao_goto 8 dX12_wordOf_117 (by decide) ?_
      exact ih.2.1 r0 x1 x2 x3 x4 v17 M _ h
set_option maxRecDepth 100000 in
set_option maxHeartbeats 4000000 in
theorem aX12_wordOf {Γ : ao_C} (d : Nat) (hd : 4 ≤ d) (n : Nat) (r0 : Nat) (x1 : Int32) (x2 : Int32) (M : ao_M) (ρ : ao_H) {y : Int32 × ao_M} (h : gX12_wordOf n r0 x1 x2 M ρ = some y) : ao_A Γ uX12_wordOf d 0 0 [.ref (Γ.2.2.2 + r0), .int x1, .int x2] (M, ρ) (ao_PI ρ y) := by
  refine ao_of (by decide) (ao_cat1 (Nat.le_of_ble_eq_true rfl)) (Nat.le_of_ble_eq_true rfl) ?_
  show ao_W Γ uX12_wordOf (ao_rm d 0 0) (ao_Q Γ (ao_PI ρ y) 0 0) 0 0 0 [some (.ref (Γ.2.2.2 + r0)), some (.int x1), some (.int x2), none, none, none, none, none] [] (M, ρ)
  exact (wX12_wordOf d hd n).1 r0 x1 x2 M y h

abbrev uX12_token : ao_Mi := (yX12_token, cX12_token, 3, none, [])
def fX12_token : Nat → Nat → Nat → Int32 → Int32 → Int32 → Nat →  ao_M → ao_H → Option (ao_M)
  | 0, _, _, _, _, _, _, _, _ => none
  | n + 1, pc, r0, x1, x2, s0, q1, M, ρ =>
    if pc = 0 then
      if ρ.2.1 r0 = 22 then
      (gX12_byteAt r0 (M r0 8) M ρ).bind fun p2 =>
      if p2.1 = (10 : Int32) then
        fX12_token n 26 r0 0 0 0 0 p2.2 ρ
      else
        (gX12_byteAt r0 (p2.2 r0 8) p2.2 ρ).bind fun p4 =>
        if p4.1 = (32 : Int32) then
          fX12_token n 26 r0 0 0 0 0 p4.2 ρ
        else
          ao_let (ao_u p4.2 r0 11 (p4.2 r0 8)) fun M6 =>
          (gX12_byteAt r0 (M6 r0 8) M6 ρ).bind fun p7 =>
          ao_let p7.1 fun v8 =>
          ao_let (ao_u p7.2 r0 9 (-1 : Int32)) fun M9 =>
          if 0 ≤ v8 then
            fX12_token n 82 r0 v8 0 0 0 M9 ρ
          else
            if (M9 r0 8) < (M9 r0 7) then
              fX12_token n 82 r0 v8 0 0 0 M9 ρ
            else
              ao_let (ao_u M9 r0 9 (0 : Int32)) fun M12 =>
              some M12
      else none
    else if pc = 26 then
      if ρ.2.1 r0 = 22 then
      ao_let (ao_u M r0 8 ((M r0 8) + (1 : Int32))) fun M14 =>
      fX12_token n 0 r0 0 0 0 0 M14 ρ
      else none
    else if pc = 82 then
      (gX12_isLetter n x1 M ρ).bind fun p15 =>
      if p15.1 = 0 then
        (gX12_isDigit x1 p15.2 ρ).bind fun p17 =>
        if p17.1 = 0 then
          if ρ.2.1 r0 = 22 then
          ao_let (ao_u p17.2 r0 8 ((p17.2 r0 8) + (1 : Int32))) fun M20 =>
          ao_let (ao_u M20 r0 10 x1) fun M21 =>
          if x1 = (61 : Int32) then
            (gX12_byteAt r0 (M21 r0 8) M21 ρ).bind fun p23 =>
            if p23.1 = (61 : Int32) then
              ao_let (ao_u p23.2 r0 8 ((p23.2 r0 8) + (1 : Int32))) fun M25 =>
              ao_let (ao_u M25 r0 10 (300 : Int32)) fun M26 =>
              ao_let (ao_u M26 r0 9 (5 : Int32)) fun M27 =>
              some M27
            else
              fX12_token n 329 r0 x1 0 0 0 p23.2 ρ
          else
            fX12_token n 329 r0 x1 0 0 0 M21 ρ
          else none
        else
          fX12_token n 203 r0 x1 (0 : Int32) 0 0 p17.2 ρ
      else
        fX12_token n 89 r0 x1 0 0 0 p15.2 ρ
    else if pc = 89 then
      if ρ.2.1 r0 = 22 then
      (gX12_byteAt r0 (M r0 8) M ρ).bind fun p29 =>
      (gX12_isLetter n p29.1 p29.2 ρ).bind fun p30 =>
      if p30.1 = 0 then
        ao_let ((p30.2 r0 8) - (p30.2 r0 11)) fun v32 =>
        if v32 = (1 : Int32) then
          if x1 < (97 : Int32) then
            fX12_token n 143 r0 x1 v32 (2 : Int32) r0 p30.2 ρ
          else
            fX12_token n 143 r0 x1 v32 (1 : Int32) r0 p30.2 ρ
        else
          (gX12_wordOf n r0 (p30.2 r0 11) v32 p30.2 ρ).bind fun p34 =>
          ao_let (ao_u p34.2 r0 10 p34.1) fun M35 =>
          if (M35 r0 10) < 0 then
            some M35
          else
            ao_let (ao_u M35 r0 9 (3 : Int32)) fun M37 =>
            some M37
      else
        ao_let (ao_u p30.2 r0 8 ((p30.2 r0 8) + (1 : Int32))) fun M39 =>
        fX12_token n 89 r0 x1 0 0 0 M39 ρ
      else none
    else if pc = 143 then
      if ρ.2.1 q1 = 22 then
      ao_let (ao_u M q1 9 s0) fun M41 =>
      if x1 < (97 : Int32) then
        fX12_token n 164 r0 x1 x2 (x1 - (65 : Int32)) r0 M41 ρ
      else
        fX12_token n 164 r0 x1 x2 (x1 - (97 : Int32)) r0 M41 ρ
      else none
    else if pc = 164 then
      if ρ.2.1 q1 = 22 then
      ao_let (ao_u M q1 10 s0) fun M44 =>
      some M44
      else none
    else if pc = 203 then
      if ρ.2.1 r0 = 22 then
      (gX12_byteAt r0 (M r0 8) M ρ).bind fun p46 =>
      (gX12_isDigit p46.1 p46.2 ρ).bind fun p47 =>
      if p47.1 = 0 then
        ao_let (ao_u p47.2 r0 10 x2) fun M49 =>
        if (1000000 : Int32) < x2 then
          some M49
        else
          ao_let (ao_u M49 r0 9 (4 : Int32)) fun M51 =>
          some M51
      else
        if (1000000 : Int32) < x2 then
          fX12_token n 240 r0 x1 x2 0 0 p47.2 ρ
        else
          (gX12_byteAt r0 (p47.2 r0 8) p47.2 ρ).bind fun p53 =>
          ao_let ((((10 : Int32) * x2) + p53.1) - (48 : Int32)) fun v54 =>
          fX12_token n 240 r0 x1 v54 0 0 p53.2 ρ
      else none
    else if pc = 240 then
      if ρ.2.1 r0 = 22 then
      ao_let (ao_u M r0 8 ((M r0 8) + (1 : Int32))) fun M56 =>
      fX12_token n 203 r0 x1 x2 0 0 M56 ρ
      else none
    else if pc = 329 then
      if x1 = (123 : Int32) then
        fX12_token n 389 r0 x1 0 0 0 M ρ
      else
        if x1 = (125 : Int32) then
          fX12_token n 389 r0 x1 0 0 0 M ρ
        else
          if x1 = (40 : Int32) then
            fX12_token n 389 r0 x1 0 0 0 M ρ
          else
            if x1 = (41 : Int32) then
              fX12_token n 389 r0 x1 0 0 0 M ρ
            else
              if x1 = (59 : Int32) then
                fX12_token n 389 r0 x1 0 0 0 M ρ
              else
                if x1 = (61 : Int32) then
                  fX12_token n 389 r0 x1 0 0 0 M ρ
                else
                  if x1 = (60 : Int32) then
                    fX12_token n 389 r0 x1 0 0 0 M ρ
                  else
                    if x1 = (43 : Int32) then
                      fX12_token n 389 r0 x1 0 0 0 M ρ
                    else
                      if x1 = (45 : Int32) then
                        fX12_token n 389 r0 x1 0 0 0 M ρ
                      else
                        if x1 = (42 : Int32) then
                          fX12_token n 389 r0 x1 0 0 0 M ρ
                        else
                          some M
    else if pc = 389 then
      if ρ.2.1 r0 = 22 then
      ao_let (ao_u M r0 9 (5 : Int32)) fun M68 =>
      some M68
      else none
    else none
def gX12_token (n : Nat) (r0 : Nat) (M : ao_M) (ρ : ao_H) : Option (ao_M) := fX12_token n 0 r0 0 0 0 0 M ρ
set_option maxRecDepth 100000 in
set_option maxHeartbeats 4000000 in
theorem wX12_token {Γ : ao_C} {ρ : ao_H} (d : Nat) (hd : 5 ≤ d) : ∀ n : Nat, (∀ (r0 : Nat) (M : ao_M) (y : ao_M), fX12_token n 0 r0 0 0 0 0 M ρ = some y → ao_W Γ uX12_token (ao_rm d 0 0) (ao_Q Γ (ao_PV ρ y) 0 0) 0 0 0 [some (.ref (Γ.2.2.2 + r0)), none, none] [] (M, ρ)) ∧ (∀ (r0 : Nat) (M : ao_M) (y : ao_M), fX12_token n 26 r0 0 0 0 0 M ρ = some y → ao_W Γ uX12_token (ao_rm d 0 0) (ao_Q Γ (ao_PV ρ y) 0 0) 0 0 26 [some (.ref (Γ.2.2.2 + r0)), none, none] [] (M, ρ)) ∧ (∀ (r0 : Nat) (x1 : Int32) (M : ao_M) (y : ao_M), fX12_token n 82 r0 x1 0 0 0 M ρ = some y → ao_W Γ uX12_token (ao_rm d 0 0) (ao_Q Γ (ao_PV ρ y) 0 0) 0 0 82 [some (.ref (Γ.2.2.2 + r0)), some (.int x1), none] [] (M, ρ)) ∧ (∀ (r0 : Nat) (x1 : Int32) (M : ao_M) (y : ao_M), fX12_token n 89 r0 x1 0 0 0 M ρ = some y → ao_W Γ uX12_token (ao_rm d 0 0) (ao_Q Γ (ao_PV ρ y) 0 0) 0 0 89 [some (.ref (Γ.2.2.2 + r0)), some (.int x1), none] [] (M, ρ)) ∧ (∀ (r0 : Nat) (x1 : Int32) (x2 : Int32) (s0 : Int32) (q1 : Nat) (M : ao_M) (y : ao_M), fX12_token n 143 r0 x1 x2 s0 q1 M ρ = some y → ao_W Γ uX12_token (ao_rm d 0 0) (ao_Q Γ (ao_PV ρ y) 0 0) 0 0 143 [some (.ref (Γ.2.2.2 + r0)), some (.int x1), some (.int x2)] [.int s0, .ref (Γ.2.2.2 + q1)] (M, ρ)) ∧ (∀ (r0 : Nat) (x1 : Int32) (x2 : Int32) (s0 : Int32) (q1 : Nat) (M : ao_M) (y : ao_M), fX12_token n 164 r0 x1 x2 s0 q1 M ρ = some y → ao_W Γ uX12_token (ao_rm d 0 0) (ao_Q Γ (ao_PV ρ y) 0 0) 0 0 164 [some (.ref (Γ.2.2.2 + r0)), some (.int x1), some (.int x2)] [.int s0, .ref (Γ.2.2.2 + q1)] (M, ρ)) ∧ (∀ (r0 : Nat) (x1 : Int32) (x2 : Int32) (M : ao_M) (y : ao_M), fX12_token n 203 r0 x1 x2 0 0 M ρ = some y → ao_W Γ uX12_token (ao_rm d 0 0) (ao_Q Γ (ao_PV ρ y) 0 0) 0 0 203 [some (.ref (Γ.2.2.2 + r0)), some (.int x1), some (.int x2)] [] (M, ρ)) ∧ (∀ (r0 : Nat) (x1 : Int32) (x2 : Int32) (M : ao_M) (y : ao_M), fX12_token n 240 r0 x1 x2 0 0 M ρ = some y → ao_W Γ uX12_token (ao_rm d 0 0) (ao_Q Γ (ao_PV ρ y) 0 0) 0 0 240 [some (.ref (Γ.2.2.2 + r0)), some (.int x1), some (.int x2)] [] (M, ρ)) ∧ (∀ (r0 : Nat) (x1 : Int32) (M : ao_M) (y : ao_M), fX12_token n 329 r0 x1 0 0 0 M ρ = some y → ao_W Γ uX12_token (ao_rm d 0 0) (ao_Q Γ (ao_PV ρ y) 0 0) 0 0 329 [some (.ref (Γ.2.2.2 + r0)), some (.int x1), none] [] (M, ρ)) ∧ (∀ (r0 : Nat) (x1 : Int32) (M : ao_M) (y : ao_M), fX12_token n 389 r0 x1 0 0 0 M ρ = some y → ao_W Γ uX12_token (ao_rm d 0 0) (ao_Q Γ (ao_PV ρ y) 0 0) 0 0 389 [some (.ref (Γ.2.2.2 + r0)), some (.int x1), none] [] (M, ρ)) := by
  intro n
  induction n with
  | zero => exact ⟨fun _ _ _ h => ao_no h, fun _ _ _ h => ao_no h, fun _ _ _ _ h => ao_no h, fun _ _ _ _ h => ao_no h, fun _ _ _ _ _ _ _ h => ao_no h, fun _ _ _ _ _ _ _ h => ao_no h, fun _ _ _ _ _ h => ao_no h, fun _ _ _ _ _ h => ao_no h, fun _ _ _ _ h => ao_no h, fun _ _ _ _ h => ao_no h⟩
  | succ n ih =>
    refine ⟨?_, ?_, ?_, ?_, ?_, ?_, ?_, ?_, ?_, ?_⟩
    · intro r0 M y h
      replace h := ao_ifT h rfl
      refine ao_aload_n 0 dX12_token_0 rfl rfl ?_
      refine ao_aload_n 0 dX12_token_1 rfl rfl ?_
      obtain ⟨hk1, h⟩ := ao_some h
      refine an_getI r0 12 8 (q := (RX12, TX12, 83)) dX12_token_2 rfl hk1 (Nat.le_of_ble_eq_true rfl) rfl lf_X12_32 ?_
      obtain ⟨p2, hp2, h⟩ := ao_bind h
      refine an_callVi r0 12 (q := (RX12, TX12, 83)) [.int (M r0 8)] (aX12_byteAt (d - 1) (by omega) r0 (M r0 8) M ρ hp2) dX12_token_5 lc_X12_35 li_X12_byteAt ls_X12_byteAt rfl hk1 rfl rfl (Nat.le_of_ble_eq_true rfl) (ao_hR (by omega) (by decide)) ?_
      refine ao_bipush (v := 10) dX12_token_8 (by decide) ?_
      refine ao_icmp_eq 26 dX12_token_10 (by decide) (fun c3 => ?_) (fun c3 => ?_)
      · replace h := ao_ifT h c3
        exact ih.2.1 r0 p2.2 _ h
      · replace h := ao_ifF h c3
        refine ao_aload_n 0 dX12_token_13 rfl rfl ?_
        refine ao_aload_n 0 dX12_token_14 rfl rfl ?_
        refine an_getI r0 12 8 (q := (RX12, TX12, 83)) dX12_token_15 rfl hk1 (Nat.le_of_ble_eq_true rfl) rfl lf_X12_32 ?_
        obtain ⟨p4, hp4, h⟩ := ao_bind h
        refine an_callVi r0 12 (q := (RX12, TX12, 83)) [.int (p2.2 r0 8)] (aX12_byteAt (d - 1) (by omega) r0 (p2.2 r0 8) p2.2 ρ hp4) dX12_token_18 lc_X12_35 li_X12_byteAt ls_X12_byteAt rfl hk1 rfl rfl (Nat.le_of_ble_eq_true rfl) (ao_hR (by omega) (by decide)) ?_
        refine ao_bipush (v := 32) dX12_token_21 (by decide) ?_
        refine ao_icmp_ne 39 dX12_token_23 (by decide) (fun c5 => ?_) (fun c5 => ?_)
        · replace h := ao_ifF h c5
          refine ao_aload_n 0 dX12_token_39 rfl rfl ?_
          refine ao_aload_n 0 dX12_token_40 rfl rfl ?_
          refine an_getI r0 12 8 (q := (RX12, TX12, 83)) dX12_token_41 rfl hk1 (Nat.le_of_ble_eq_true rfl) rfl lf_X12_32 ?_
          refine an_putI r0 12 11 (q := (RX12, TX12, 83)) dX12_token_44 rfl hk1 (Nat.le_of_ble_eq_true rfl) lf_X12_39 rfl rfl rfl rfl (fun M6 hM6 => ?_)
          replace h := ao_letD h hM6
          refine ao_aload_n 0 dX12_token_47 rfl rfl ?_
          refine ao_aload_n 0 dX12_token_48 rfl rfl ?_
          refine an_getI r0 12 8 (q := (RX12, TX12, 83)) dX12_token_49 rfl hk1 (Nat.le_of_ble_eq_true rfl) rfl lf_X12_32 ?_
          obtain ⟨p7, hp7, h⟩ := ao_bind h
          refine an_callVi r0 12 (q := (RX12, TX12, 83)) [.int (M6 r0 8)] (aX12_byteAt (d - 1) (by omega) r0 (M6 r0 8) M6 ρ hp7) dX12_token_52 lc_X12_35 li_X12_byteAt ls_X12_byteAt rfl hk1 rfl rfl (Nat.le_of_ble_eq_true rfl) (ao_hR (by omega) (by decide)) ?_
          refine an_topi (fun v8 hv8 => ?_)
          replace h := ao_letD h hv8
          refine ao_istore_n 1 (lo' := [some (.ref (Γ.2.2.2 + r0)), some (.int v8), none]) dX12_token_55 rfl (Nat.le_of_ble_eq_true rfl) rfl ?_
          refine ao_aload_n 0 dX12_token_56 rfl rfl ?_
          refine ao_iconst (v := (-1)) dX12_token_57 (by decide) ?_
          refine an_putI r0 12 9 (q := (RX12, TX12, 83)) dX12_token_58 rfl hk1 (Nat.le_of_ble_eq_true rfl) lf_X12_42 rfl rfl rfl rfl (fun M9 hM9 => ?_)
          replace h := ao_letD h hM9
          refine ao_iload_n 1 dX12_token_61 rfl rfl ?_
          refine ao_if_ge 82 dX12_token_62 (by decide) (fun c10 => ?_) (fun c10 => ?_)
          · replace h := ao_ifT h c10
            exact ih.2.2.1 r0 v8 M9 _ h
          · replace h := ao_ifF h c10
            refine ao_aload_n 0 dX12_token_65 rfl rfl ?_
            refine an_getI r0 12 8 (q := (RX12, TX12, 83)) dX12_token_66 rfl hk1 (Nat.le_of_ble_eq_true rfl) rfl lf_X12_32 ?_
            refine ao_aload_n 0 dX12_token_69 rfl rfl ?_
            refine an_getI r0 12 7 (q := (RX12, TX12, 83)) dX12_token_70 rfl hk1 (Nat.le_of_ble_eq_true rfl) rfl lf_X12_14 ?_
            refine ao_icmp_lt 82 dX12_token_73 (by decide) (fun c11 => ?_) (fun c11 => ?_)
            · replace h := ao_ifT h c11
              exact ih.2.2.1 r0 v8 M9 _ h
            · replace h := ao_ifF h c11
              refine ao_aload_n 0 dX12_token_76 rfl rfl ?_
              refine ao_iconst (v := 0) dX12_token_77 (by decide) ?_
              refine an_putI r0 12 9 (q := (RX12, TX12, 83)) dX12_token_78 rfl hk1 (Nat.le_of_ble_eq_true rfl) lf_X12_42 rfl rfl rfl rfl (fun M12 hM12 => ?_)
              replace h := ao_letD h hM12
              cases h
              exact ao_return dX12_token_81 rfl ⟨rfl, rfl⟩
        · replace h := ao_ifT h c5
          exact ih.2.1 r0 p4.2 _ h
    · intro r0 M y h
      replace h := ao_ifF h (by decide)
      replace h := ao_ifT h rfl
      refine ao_aload_n 0 dX12_token_26 rfl rfl ?_
      refine ao_dup dX12_token_27 rfl ?_
      obtain ⟨hk13, h⟩ := ao_some h
      refine an_getI r0 12 8 (q := (RX12, TX12, 83)) dX12_token_28 rfl hk13 (Nat.le_of_ble_eq_true rfl) rfl lf_X12_32 ?_
      refine ao_iconst (v := 1) dX12_token_31 (by decide) ?_
      refine ao_iadd dX12_token_32 ?_
      refine an_putI r0 12 8 (q := (RX12, TX12, 83)) dX12_token_33 rfl hk13 (Nat.le_of_ble_eq_true rfl) lf_X12_32 rfl rfl rfl rfl (fun M14 hM14 => ?_)
      replace h := ao_letD h hM14
      refine ao_goto 0 dX12_token_36 (by decide) ?_
      exact ih.1 r0 M14 _ h
    · intro r0 x1 M y h
      replace h := ao_ifF h (by decide)
      replace h := ao_ifF h (by decide)
      replace h := ao_ifT h rfl
      refine ao_iload_n 1 dX12_token_82 rfl rfl ?_
      obtain ⟨p15, hp15, h⟩ := ao_bind h
      refine an_callSi [.int x1] (aX12_isLetter (d - 1) (by omega) _ x1 M ρ hp15) dX12_token_83 lc_X12_45 lt_X12_isLetter rfl rfl (Nat.le_of_ble_eq_true rfl) (ao_hR (by omega) (by decide)) ?_
      refine ao_if_eq 194 dX12_token_86 (by decide) (fun c16 => ?_) (fun c16 => ?_)
      · replace h := ao_ifT h c16
        refine ao_iload_n 1 dX12_token_194 rfl rfl ?_
        obtain ⟨p17, hp17, h⟩ := ao_bind h
        refine an_callSi [.int x1] (aX12_isDigit (d - 1) (by omega) x1 p15.2 ρ hp17) dX12_token_195 lc_X12_56 lt_X12_isDigit rfl rfl (Nat.le_of_ble_eq_true rfl) (ao_hR (by omega) (by decide)) ?_
        refine ao_if_eq 270 dX12_token_198 (by decide) (fun c18 => ?_) (fun c18 => ?_)
        · replace h := ao_ifT h c18
          refine ao_aload_n 0 dX12_token_270 rfl rfl ?_
          refine ao_dup dX12_token_271 rfl ?_
          obtain ⟨hk19, h⟩ := ao_some h
          refine an_getI r0 12 8 (q := (RX12, TX12, 83)) dX12_token_272 rfl hk19 (Nat.le_of_ble_eq_true rfl) rfl lf_X12_32 ?_
          refine ao_iconst (v := 1) dX12_token_275 (by decide) ?_
          refine ao_iadd dX12_token_276 ?_
          refine an_putI r0 12 8 (q := (RX12, TX12, 83)) dX12_token_277 rfl hk19 (Nat.le_of_ble_eq_true rfl) lf_X12_32 rfl rfl rfl rfl (fun M20 hM20 => ?_)
          replace h := ao_letD h hM20
          refine ao_aload_n 0 dX12_token_280 rfl rfl ?_
          refine ao_iload_n 1 dX12_token_281 rfl rfl ?_
          refine an_putI r0 12 10 (q := (RX12, TX12, 83)) dX12_token_282 rfl hk19 (Nat.le_of_ble_eq_true rfl) lf_X12_49 rfl rfl rfl rfl (fun M21 hM21 => ?_)
          replace h := ao_letD h hM21
          refine ao_iload_n 1 dX12_token_285 rfl rfl ?_
          refine ao_bipush (v := 61) dX12_token_286 (by decide) ?_
          refine ao_icmp_ne 329 dX12_token_288 (by decide) (fun c22 => ?_) (fun c22 => ?_)
          · replace h := ao_ifF h c22
            exact ih.2.2.2.2.2.2.2.2.1 r0 x1 M21 _ h
          · replace h := ao_ifT h c22
            refine ao_aload_n 0 dX12_token_291 rfl rfl ?_
            refine ao_aload_n 0 dX12_token_292 rfl rfl ?_
            refine an_getI r0 12 8 (q := (RX12, TX12, 83)) dX12_token_293 rfl hk19 (Nat.le_of_ble_eq_true rfl) rfl lf_X12_32 ?_
            obtain ⟨p23, hp23, h⟩ := ao_bind h
            refine an_callVi r0 12 (q := (RX12, TX12, 83)) [.int (M21 r0 8)] (aX12_byteAt (d - 1) (by omega) r0 (M21 r0 8) M21 ρ hp23) dX12_token_296 lc_X12_35 li_X12_byteAt ls_X12_byteAt rfl hk19 rfl rfl (Nat.le_of_ble_eq_true rfl) (ao_hR (by omega) (by decide)) ?_
            refine ao_bipush (v := 61) dX12_token_299 (by decide) ?_
            refine ao_icmp_ne 329 dX12_token_301 (by decide) (fun c24 => ?_) (fun c24 => ?_)
            · replace h := ao_ifF h c24
              exact ih.2.2.2.2.2.2.2.2.1 r0 x1 p23.2 _ h
            · replace h := ao_ifT h c24
              refine ao_aload_n 0 dX12_token_304 rfl rfl ?_
              refine ao_dup dX12_token_305 rfl ?_
              refine an_getI r0 12 8 (q := (RX12, TX12, 83)) dX12_token_306 rfl hk19 (Nat.le_of_ble_eq_true rfl) rfl lf_X12_32 ?_
              refine ao_iconst (v := 1) dX12_token_309 (by decide) ?_
              refine ao_iadd dX12_token_310 ?_
              refine an_putI r0 12 8 (q := (RX12, TX12, 83)) dX12_token_311 rfl hk19 (Nat.le_of_ble_eq_true rfl) lf_X12_32 rfl rfl rfl rfl (fun M25 hM25 => ?_)
              replace h := ao_letD h hM25
              refine ao_aload_n 0 dX12_token_314 rfl rfl ?_
              refine ao_sipush (v := 300) dX12_token_315 (by decide) ?_
              refine an_putI r0 12 10 (q := (RX12, TX12, 83)) dX12_token_318 rfl hk19 (Nat.le_of_ble_eq_true rfl) lf_X12_49 rfl rfl rfl rfl (fun M26 hM26 => ?_)
              replace h := ao_letD h hM26
              refine ao_aload_n 0 dX12_token_321 rfl rfl ?_
              refine ao_iconst (v := 5) dX12_token_322 (by decide) ?_
              refine an_putI r0 12 9 (q := (RX12, TX12, 83)) dX12_token_323 rfl hk19 (Nat.le_of_ble_eq_true rfl) lf_X12_42 rfl rfl rfl rfl (fun M27 hM27 => ?_)
              replace h := ao_letD h hM27
              refine ao_goto 394 dX12_token_326 (by decide) ?_
              cases h
              exact ao_return dX12_token_394 rfl ⟨rfl, rfl⟩
        · replace h := ao_ifF h c18
          refine ao_iconst (v := 0) dX12_token_201 (by decide) ?_
          refine ao_istore_n 2 (lo' := [some (.ref (Γ.2.2.2 + r0)), some (.int x1), some (.int (0 : Int32))]) dX12_token_202 rfl (Nat.le_of_ble_eq_true rfl) rfl ?_
          exact ih.2.2.2.2.2.2.1 r0 x1 (0 : Int32) p17.2 _ h
      · replace h := ao_ifF h c16
        exact ih.2.2.2.1 r0 x1 p15.2 _ h
    · intro r0 x1 M y h
      replace h := ao_ifF h (by decide)
      replace h := ao_ifF h (by decide)
      replace h := ao_ifF h (by decide)
      replace h := ao_ifT h rfl
      refine ao_aload_n 0 dX12_token_89 rfl rfl ?_
      refine ao_aload_n 0 dX12_token_90 rfl rfl ?_
      obtain ⟨hk28, h⟩ := ao_some h
      refine an_getI r0 12 8 (q := (RX12, TX12, 83)) dX12_token_91 rfl hk28 (Nat.le_of_ble_eq_true rfl) rfl lf_X12_32 ?_
      obtain ⟨p29, hp29, h⟩ := ao_bind h
      refine an_callVi r0 12 (q := (RX12, TX12, 83)) [.int (M r0 8)] (aX12_byteAt (d - 1) (by omega) r0 (M r0 8) M ρ hp29) dX12_token_94 lc_X12_35 li_X12_byteAt ls_X12_byteAt rfl hk28 rfl rfl (Nat.le_of_ble_eq_true rfl) (ao_hR (by omega) (by decide)) ?_
      obtain ⟨p30, hp30, h⟩ := ao_bind h
      refine an_callSi [.int p29.1] (aX12_isLetter (d - 1) (by omega) _ p29.1 p29.2 ρ hp30) dX12_token_97 lc_X12_45 lt_X12_isLetter rfl rfl (Nat.le_of_ble_eq_true rfl) (ao_hR (by omega) (by decide)) ?_
      refine ao_if_eq 116 dX12_token_100 (by decide) (fun c31 => ?_) (fun c31 => ?_)
      · replace h := ao_ifT h c31
        refine ao_aload_n 0 dX12_token_116 rfl rfl ?_
        refine an_getI r0 12 8 (q := (RX12, TX12, 83)) dX12_token_117 rfl hk28 (Nat.le_of_ble_eq_true rfl) rfl lf_X12_32 ?_
        refine ao_aload_n 0 dX12_token_120 rfl rfl ?_
        refine an_getI r0 12 11 (q := (RX12, TX12, 83)) dX12_token_121 rfl hk28 (Nat.le_of_ble_eq_true rfl) rfl lf_X12_39 ?_
        refine ao_isub dX12_token_124 ?_
        refine an_topi (fun v32 hv32 => ?_)
        replace h := ao_letD h hv32
        refine ao_istore_n 2 (lo' := [some (.ref (Γ.2.2.2 + r0)), some (.int x1), some (.int v32)]) dX12_token_125 rfl (Nat.le_of_ble_eq_true rfl) rfl ?_
        refine ao_iload_n 2 dX12_token_126 rfl rfl ?_
        refine ao_iconst (v := 1) dX12_token_127 (by decide) ?_
        refine ao_icmp_ne 168 dX12_token_128 (by decide) (fun c33 => ?_) (fun c33 => ?_)
        · replace h := ao_ifF h c33
          refine ao_aload_n 0 dX12_token_168 rfl rfl ?_
          refine ao_aload_n 0 dX12_token_169 rfl rfl ?_
          refine ao_aload_n 0 dX12_token_170 rfl rfl ?_
          refine an_getI r0 12 11 (q := (RX12, TX12, 83)) dX12_token_171 rfl hk28 (Nat.le_of_ble_eq_true rfl) rfl lf_X12_39 ?_
          refine ao_iload_n 2 dX12_token_174 rfl rfl ?_
          obtain ⟨p34, hp34, h⟩ := ao_bind h
          refine an_callVi r0 12 (q := (RX12, TX12, 83)) [.int (p30.2 r0 11), .int v32] (aX12_wordOf (d - 1) (by omega) _ r0 (p30.2 r0 11) v32 p30.2 ρ hp34) dX12_token_175 lc_X12_52 li_X12_wordOf ls_X12_wordOf rfl hk28 rfl rfl (Nat.le_of_ble_eq_true rfl) (ao_hR (by omega) (by decide)) ?_
          refine an_putI r0 12 10 (q := (RX12, TX12, 83)) dX12_token_178 rfl hk28 (Nat.le_of_ble_eq_true rfl) lf_X12_49 rfl rfl rfl rfl (fun M35 hM35 => ?_)
          replace h := ao_letD h hM35
          refine ao_aload_n 0 dX12_token_181 rfl rfl ?_
          refine an_getI r0 12 10 (q := (RX12, TX12, 83)) dX12_token_182 rfl hk28 (Nat.le_of_ble_eq_true rfl) rfl lf_X12_49 ?_
          refine ao_if_lt 193 dX12_token_185 (by decide) (fun c36 => ?_) (fun c36 => ?_)
          · replace h := ao_ifT h c36
            cases h
            exact ao_return dX12_token_193 rfl ⟨rfl, rfl⟩
          · replace h := ao_ifF h c36
            refine ao_aload_n 0 dX12_token_188 rfl rfl ?_
            refine ao_iconst (v := 3) dX12_token_189 (by decide) ?_
            refine an_putI r0 12 9 (q := (RX12, TX12, 83)) dX12_token_190 rfl hk28 (Nat.le_of_ble_eq_true rfl) lf_X12_42 rfl rfl rfl rfl (fun M37 hM37 => ?_)
            replace h := ao_letD h hM37
            cases h
            exact ao_return dX12_token_193 rfl ⟨rfl, rfl⟩
        · replace h := ao_ifT h c33
          refine ao_aload_n 0 dX12_token_131 rfl rfl ?_
          refine ao_iload_n 1 dX12_token_132 rfl rfl ?_
          refine ao_bipush (v := 97) dX12_token_133 (by decide) ?_
          refine ao_icmp_lt 142 dX12_token_135 (by decide) (fun c38 => ?_) (fun c38 => ?_)
          · replace h := ao_ifT h c38
            refine ao_iconst (v := 2) dX12_token_142 (by decide) ?_
            exact ih.2.2.2.2.1 r0 x1 v32 (2 : Int32) r0 p30.2 _ h
          · replace h := ao_ifF h c38
            refine ao_iconst (v := 1) dX12_token_138 (by decide) ?_
            refine ao_goto 143 dX12_token_139 (by decide) ?_
            exact ih.2.2.2.2.1 r0 x1 v32 (1 : Int32) r0 p30.2 _ h
      · replace h := ao_ifF h c31
        refine ao_aload_n 0 dX12_token_103 rfl rfl ?_
        refine ao_dup dX12_token_104 rfl ?_
        refine an_getI r0 12 8 (q := (RX12, TX12, 83)) dX12_token_105 rfl hk28 (Nat.le_of_ble_eq_true rfl) rfl lf_X12_32 ?_
        refine ao_iconst (v := 1) dX12_token_108 (by decide) ?_
        refine ao_iadd dX12_token_109 ?_
        refine an_putI r0 12 8 (q := (RX12, TX12, 83)) dX12_token_110 rfl hk28 (Nat.le_of_ble_eq_true rfl) lf_X12_32 rfl rfl rfl rfl (fun M39 hM39 => ?_)
        replace h := ao_letD h hM39
        refine ao_goto 89 dX12_token_113 (by decide) ?_
        exact ih.2.2.2.1 r0 x1 M39 _ h
    · intro r0 x1 x2 s0 q1 M y h
      replace h := ao_ifF h (by decide)
      replace h := ao_ifF h (by decide)
      replace h := ao_ifF h (by decide)
      replace h := ao_ifF h (by decide)
      replace h := ao_ifT h rfl
      obtain ⟨hk40, h⟩ := ao_some h
      refine an_putI q1 12 9 (q := (RX12, TX12, 83)) dX12_token_143 rfl hk40 (Nat.le_of_ble_eq_true rfl) lf_X12_42 rfl rfl rfl rfl (fun M41 hM41 => ?_)
      replace h := ao_letD h hM41
      refine ao_aload_n 0 dX12_token_146 rfl rfl ?_
      refine ao_iload_n 1 dX12_token_147 rfl rfl ?_
      refine ao_bipush (v := 97) dX12_token_148 (by decide) ?_
      refine ao_icmp_lt 160 dX12_token_150 (by decide) (fun c42 => ?_) (fun c42 => ?_)
      · replace h := ao_ifT h c42
        refine ao_iload_n 1 dX12_token_160 rfl rfl ?_
        refine ao_bipush (v := 65) dX12_token_161 (by decide) ?_
        refine ao_isub dX12_token_163 ?_
        exact ih.2.2.2.2.2.1 r0 x1 x2 (x1 - (65 : Int32)) r0 M41 _ h
      · replace h := ao_ifF h c42
        refine ao_iload_n 1 dX12_token_153 rfl rfl ?_
        refine ao_bipush (v := 97) dX12_token_154 (by decide) ?_
        refine ao_isub dX12_token_156 ?_
        refine ao_goto 164 dX12_token_157 (by decide) ?_
        exact ih.2.2.2.2.2.1 r0 x1 x2 (x1 - (97 : Int32)) r0 M41 _ h
    · intro r0 x1 x2 s0 q1 M y h
      replace h := ao_ifF h (by decide)
      replace h := ao_ifF h (by decide)
      replace h := ao_ifF h (by decide)
      replace h := ao_ifF h (by decide)
      replace h := ao_ifF h (by decide)
      replace h := ao_ifT h rfl
      obtain ⟨hk43, h⟩ := ao_some h
      refine an_putI q1 12 10 (q := (RX12, TX12, 83)) dX12_token_164 rfl hk43 (Nat.le_of_ble_eq_true rfl) lf_X12_49 rfl rfl rfl rfl (fun M44 hM44 => ?_)
      replace h := ao_letD h hM44
      cases h
      exact ao_return dX12_token_167 rfl ⟨rfl, rfl⟩
    · intro r0 x1 x2 M y h
      replace h := ao_ifF h (by decide)
      replace h := ao_ifF h (by decide)
      replace h := ao_ifF h (by decide)
      replace h := ao_ifF h (by decide)
      replace h := ao_ifF h (by decide)
      replace h := ao_ifF h (by decide)
      replace h := ao_ifT h rfl
      refine ao_aload_n 0 dX12_token_203 rfl rfl ?_
      refine ao_aload_n 0 dX12_token_204 rfl rfl ?_
      obtain ⟨hk45, h⟩ := ao_some h
      refine an_getI r0 12 8 (q := (RX12, TX12, 83)) dX12_token_205 rfl hk45 (Nat.le_of_ble_eq_true rfl) rfl lf_X12_32 ?_
      obtain ⟨p46, hp46, h⟩ := ao_bind h
      refine an_callVi r0 12 (q := (RX12, TX12, 83)) [.int (M r0 8)] (aX12_byteAt (d - 1) (by omega) r0 (M r0 8) M ρ hp46) dX12_token_208 lc_X12_35 li_X12_byteAt ls_X12_byteAt rfl hk45 rfl rfl (Nat.le_of_ble_eq_true rfl) (ao_hR (by omega) (by decide)) ?_
      obtain ⟨p47, hp47, h⟩ := ao_bind h
      refine an_callSi [.int p46.1] (aX12_isDigit (d - 1) (by omega) p46.1 p46.2 ρ hp47) dX12_token_211 lc_X12_56 lt_X12_isDigit rfl rfl (Nat.le_of_ble_eq_true rfl) (ao_hR (by omega) (by decide)) ?_
      refine ao_if_eq 253 dX12_token_214 (by decide) (fun c48 => ?_) (fun c48 => ?_)
      · replace h := ao_ifT h c48
        refine ao_aload_n 0 dX12_token_253 rfl rfl ?_
        refine ao_iload_n 2 dX12_token_254 rfl rfl ?_
        refine an_putI r0 12 10 (q := (RX12, TX12, 83)) dX12_token_255 rfl hk45 (Nat.le_of_ble_eq_true rfl) lf_X12_49 rfl rfl rfl rfl (fun M49 hM49 => ?_)
        replace h := ao_letD h hM49
        refine ao_iload_n 2 dX12_token_258 rfl rfl ?_
        refine ao_ldc (v := 1000000) dX12_token_259 lk_X12_59 ?_
        refine ao_icmp_gt 269 dX12_token_261 (by decide) (fun c50 => ?_) (fun c50 => ?_)
        · replace h := ao_ifT h c50
          cases h
          exact ao_return dX12_token_269 rfl ⟨rfl, rfl⟩
        · replace h := ao_ifF h c50
          refine ao_aload_n 0 dX12_token_264 rfl rfl ?_
          refine ao_iconst (v := 4) dX12_token_265 (by decide) ?_
          refine an_putI r0 12 9 (q := (RX12, TX12, 83)) dX12_token_266 rfl hk45 (Nat.le_of_ble_eq_true rfl) lf_X12_42 rfl rfl rfl rfl (fun M51 hM51 => ?_)
          replace h := ao_letD h hM51
          cases h
          exact ao_return dX12_token_269 rfl ⟨rfl, rfl⟩
      · replace h := ao_ifF h c48
        refine ao_iload_n 2 dX12_token_217 rfl rfl ?_
        refine ao_ldc (v := 1000000) dX12_token_218 lk_X12_59 ?_
        refine ao_icmp_gt 240 dX12_token_220 (by decide) (fun c52 => ?_) (fun c52 => ?_)
        · replace h := ao_ifT h c52
          exact ih.2.2.2.2.2.2.2.1 r0 x1 x2 p47.2 _ h
        · replace h := ao_ifF h c52
          refine ao_bipush (v := 10) dX12_token_223 (by decide) ?_
          refine ao_iload_n 2 dX12_token_225 rfl rfl ?_
          refine ao_imul dX12_token_226 ?_
          refine ao_aload_n 0 dX12_token_227 rfl rfl ?_
          refine ao_aload_n 0 dX12_token_228 rfl rfl ?_
          refine an_getI r0 12 8 (q := (RX12, TX12, 83)) dX12_token_229 rfl hk45 (Nat.le_of_ble_eq_true rfl) rfl lf_X12_32 ?_
          obtain ⟨p53, hp53, h⟩ := ao_bind h
          refine an_callVi r0 12 (q := (RX12, TX12, 83)) [.int (p47.2 r0 8)] (aX12_byteAt (d - 1) (by omega) r0 (p47.2 r0 8) p47.2 ρ hp53) dX12_token_232 lc_X12_35 li_X12_byteAt ls_X12_byteAt rfl hk45 rfl rfl (Nat.le_of_ble_eq_true rfl) (ao_hR (by omega) (by decide)) ?_
          refine ao_iadd dX12_token_235 ?_
          refine ao_bipush (v := 48) dX12_token_236 (by decide) ?_
          refine ao_isub dX12_token_238 ?_
          refine an_topi (fun v54 hv54 => ?_)
          replace h := ao_letD h hv54
          refine ao_istore_n 2 (lo' := [some (.ref (Γ.2.2.2 + r0)), some (.int x1), some (.int v54)]) dX12_token_239 rfl (Nat.le_of_ble_eq_true rfl) rfl ?_
          exact ih.2.2.2.2.2.2.2.1 r0 x1 v54 p53.2 _ h
    · intro r0 x1 x2 M y h
      replace h := ao_ifF h (by decide)
      replace h := ao_ifF h (by decide)
      replace h := ao_ifF h (by decide)
      replace h := ao_ifF h (by decide)
      replace h := ao_ifF h (by decide)
      replace h := ao_ifF h (by decide)
      replace h := ao_ifF h (by decide)
      replace h := ao_ifT h rfl
      refine ao_aload_n 0 dX12_token_240 rfl rfl ?_
      refine ao_dup dX12_token_241 rfl ?_
      obtain ⟨hk55, h⟩ := ao_some h
      refine an_getI r0 12 8 (q := (RX12, TX12, 83)) dX12_token_242 rfl hk55 (Nat.le_of_ble_eq_true rfl) rfl lf_X12_32 ?_
      refine ao_iconst (v := 1) dX12_token_245 (by decide) ?_
      refine ao_iadd dX12_token_246 ?_
      refine an_putI r0 12 8 (q := (RX12, TX12, 83)) dX12_token_247 rfl hk55 (Nat.le_of_ble_eq_true rfl) lf_X12_32 rfl rfl rfl rfl (fun M56 hM56 => ?_)
      replace h := ao_letD h hM56
      refine ao_goto 203 dX12_token_250 (by decide) ?_
      exact ih.2.2.2.2.2.2.1 r0 x1 x2 M56 _ h
    · intro r0 x1 M y h
      replace h := ao_ifF h (by decide)
      replace h := ao_ifF h (by decide)
      replace h := ao_ifF h (by decide)
      replace h := ao_ifF h (by decide)
      replace h := ao_ifF h (by decide)
      replace h := ao_ifF h (by decide)
      replace h := ao_ifF h (by decide)
      replace h := ao_ifF h (by decide)
      replace h := ao_ifT h rfl
      refine ao_iload_n 1 dX12_token_329 rfl rfl ?_
      refine ao_bipush (v := 123) dX12_token_330 (by decide) ?_
      refine ao_icmp_eq 389 dX12_token_332 (by decide) (fun c57 => ?_) (fun c57 => ?_)
      · replace h := ao_ifT h c57
        exact ih.2.2.2.2.2.2.2.2.2 r0 x1 M _ h
      · replace h := ao_ifF h c57
        refine ao_iload_n 1 dX12_token_335 rfl rfl ?_
        refine ao_bipush (v := 125) dX12_token_336 (by decide) ?_
        refine ao_icmp_eq 389 dX12_token_338 (by decide) (fun c58 => ?_) (fun c58 => ?_)
        · replace h := ao_ifT h c58
          exact ih.2.2.2.2.2.2.2.2.2 r0 x1 M _ h
        · replace h := ao_ifF h c58
          refine ao_iload_n 1 dX12_token_341 rfl rfl ?_
          refine ao_bipush (v := 40) dX12_token_342 (by decide) ?_
          refine ao_icmp_eq 389 dX12_token_344 (by decide) (fun c59 => ?_) (fun c59 => ?_)
          · replace h := ao_ifT h c59
            exact ih.2.2.2.2.2.2.2.2.2 r0 x1 M _ h
          · replace h := ao_ifF h c59
            refine ao_iload_n 1 dX12_token_347 rfl rfl ?_
            refine ao_bipush (v := 41) dX12_token_348 (by decide) ?_
            refine ao_icmp_eq 389 dX12_token_350 (by decide) (fun c60 => ?_) (fun c60 => ?_)
            · replace h := ao_ifT h c60
              exact ih.2.2.2.2.2.2.2.2.2 r0 x1 M _ h
            · replace h := ao_ifF h c60
              refine ao_iload_n 1 dX12_token_353 rfl rfl ?_
              refine ao_bipush (v := 59) dX12_token_354 (by decide) ?_
              refine ao_icmp_eq 389 dX12_token_356 (by decide) (fun c61 => ?_) (fun c61 => ?_)
              · replace h := ao_ifT h c61
                exact ih.2.2.2.2.2.2.2.2.2 r0 x1 M _ h
              · replace h := ao_ifF h c61
                refine ao_iload_n 1 dX12_token_359 rfl rfl ?_
                refine ao_bipush (v := 61) dX12_token_360 (by decide) ?_
                refine ao_icmp_eq 389 dX12_token_362 (by decide) (fun c62 => ?_) (fun c62 => ?_)
                · replace h := ao_ifT h c62
                  exact ih.2.2.2.2.2.2.2.2.2 r0 x1 M _ h
                · replace h := ao_ifF h c62
                  refine ao_iload_n 1 dX12_token_365 rfl rfl ?_
                  refine ao_bipush (v := 60) dX12_token_366 (by decide) ?_
                  refine ao_icmp_eq 389 dX12_token_368 (by decide) (fun c63 => ?_) (fun c63 => ?_)
                  · replace h := ao_ifT h c63
                    exact ih.2.2.2.2.2.2.2.2.2 r0 x1 M _ h
                  · replace h := ao_ifF h c63
                    refine ao_iload_n 1 dX12_token_371 rfl rfl ?_
                    refine ao_bipush (v := 43) dX12_token_372 (by decide) ?_
                    refine ao_icmp_eq 389 dX12_token_374 (by decide) (fun c64 => ?_) (fun c64 => ?_)
                    · replace h := ao_ifT h c64
                      exact ih.2.2.2.2.2.2.2.2.2 r0 x1 M _ h
                    · replace h := ao_ifF h c64
                      refine ao_iload_n 1 dX12_token_377 rfl rfl ?_
                      refine ao_bipush (v := 45) dX12_token_378 (by decide) ?_
                      refine ao_icmp_eq 389 dX12_token_380 (by decide) (fun c65 => ?_) (fun c65 => ?_)
                      · replace h := ao_ifT h c65
                        exact ih.2.2.2.2.2.2.2.2.2 r0 x1 M _ h
                      · replace h := ao_ifF h c65
                        refine ao_iload_n 1 dX12_token_383 rfl rfl ?_
                        refine ao_bipush (v := 42) dX12_token_384 (by decide) ?_
                        refine ao_icmp_ne 394 dX12_token_386 (by decide) (fun c66 => ?_) (fun c66 => ?_)
                        · replace h := ao_ifF h c66
                          cases h
                          exact ao_return dX12_token_394 rfl ⟨rfl, rfl⟩
                        · replace h := ao_ifT h c66
                          exact ih.2.2.2.2.2.2.2.2.2 r0 x1 M _ h
    · intro r0 x1 M y h
      replace h := ao_ifF h (by decide)
      replace h := ao_ifF h (by decide)
      replace h := ao_ifF h (by decide)
      replace h := ao_ifF h (by decide)
      replace h := ao_ifF h (by decide)
      replace h := ao_ifF h (by decide)
      replace h := ao_ifF h (by decide)
      replace h := ao_ifF h (by decide)
      replace h := ao_ifF h (by decide)
      replace h := ao_ifT h rfl
      refine ao_aload_n 0 dX12_token_389 rfl rfl ?_
      refine ao_iconst (v := 5) dX12_token_390 (by decide) ?_
      obtain ⟨hk67, h⟩ := ao_some h
      refine an_putI r0 12 9 (q := (RX12, TX12, 83)) dX12_token_391 rfl hk67 (Nat.le_of_ble_eq_true rfl) lf_X12_42 rfl rfl rfl rfl (fun M68 hM68 => ?_)
      replace h := ao_letD h hM68
      cases h
      exact ao_return dX12_token_394 rfl ⟨rfl, rfl⟩
set_option maxRecDepth 100000 in
set_option maxHeartbeats 4000000 in
theorem aX12_token {Γ : ao_C} (d : Nat) (hd : 5 ≤ d) (n : Nat) (r0 : Nat) (M : ao_M) (ρ : ao_H) {y : ao_M} (h : gX12_token n r0 M ρ = some y) : ao_A Γ uX12_token d 0 0 [.ref (Γ.2.2.2 + r0)] (M, ρ) (ao_PV ρ y) := by
  refine ao_of (by decide) (ao_cat1 (Nat.le_of_ble_eq_true rfl)) (Nat.le_of_ble_eq_true rfl) ?_
  show ao_W Γ uX12_token (ao_rm d 0 0) (ao_Q Γ (ao_PV ρ y) 0 0) 0 0 0 [some (.ref (Γ.2.2.2 + r0)), none, none] [] (M, ρ)
  exact (wX12_token d hd n).1 r0 M y h

abbrev uX12_isSign : ao_Mi := (yX12_isSign, cX12_isSign, 2, (some .boolean), [])
def gX12_isSign (r0 : Nat) (x1 : Int32) (M : ao_M) (ρ : ao_H) : Option (Int32 × ao_M) :=
  if ρ.2.1 r0 = 22 then
  if (M r0 9) = (5 : Int32) then
    if (M r0 10) = x1 then
      some ((1 : Int32), M)
    else
      some ((0 : Int32), M)
  else
    some ((0 : Int32), M)
  else none
set_option maxRecDepth 100000 in
set_option maxHeartbeats 4000000 in
theorem aX12_isSign {Γ : ao_C} (d : Nat) (hd : 0 ≤ d) (r0 : Nat) (x1 : Int32) (M : ao_M) (ρ : ao_H) {y : Int32 × ao_M} (h : gX12_isSign r0 x1 M ρ = some y) : ao_A Γ uX12_isSign d 0 0 [.ref (Γ.2.2.2 + r0), .int x1] (M, ρ) (ao_PI ρ y) := by
  refine ao_of (by decide) (ao_cat1 (Nat.le_of_ble_eq_true rfl)) (Nat.le_of_ble_eq_true rfl) ?_
  show ao_W Γ uX12_isSign (ao_rm d 0 0) (ao_Q Γ (ao_PI ρ y) 0 0) 0 0 0 [some (.ref (Γ.2.2.2 + r0)), some (.int x1)] [] (M, ρ)
  unfold gX12_isSign at h
  refine ao_aload_n 0 dX12_isSign_0 rfl rfl ?_
  obtain ⟨hk1, h⟩ := ao_some h
  refine an_getI r0 12 9 (q := (RX12, TX12, 83)) dX12_isSign_1 rfl hk1 (Nat.le_of_ble_eq_true rfl) rfl lf_X12_42 ?_
  refine ao_iconst (v := 5) dX12_isSign_4 (by decide) ?_
  refine ao_icmp_ne 20 dX12_isSign_5 (by decide) (fun c2 => ?_) (fun c2 => ?_)
  · replace h := ao_ifF h c2
    refine ao_iconst (v := 0) dX12_isSign_20 (by decide) ?_
    cases h
    exact ao_ireturn dX12_isSign_21 rfl rfl ⟨rfl, rfl⟩
  · replace h := ao_ifT h c2
    refine ao_aload_n 0 dX12_isSign_8 rfl rfl ?_
    refine an_getI r0 12 10 (q := (RX12, TX12, 83)) dX12_isSign_9 rfl hk1 (Nat.le_of_ble_eq_true rfl) rfl lf_X12_49 ?_
    refine ao_iload_n 1 dX12_isSign_12 rfl rfl ?_
    refine ao_icmp_ne 20 dX12_isSign_13 (by decide) (fun c3 => ?_) (fun c3 => ?_)
    · replace h := ao_ifF h c3
      refine ao_iconst (v := 0) dX12_isSign_20 (by decide) ?_
      cases h
      exact ao_ireturn dX12_isSign_21 rfl rfl ⟨rfl, rfl⟩
    · replace h := ao_ifT h c3
      refine ao_iconst (v := 1) dX12_isSign_16 (by decide) ?_
      refine ao_goto 21 dX12_isSign_17 (by decide) ?_
      cases h
      exact ao_ireturn dX12_isSign_21 rfl rfl ⟨rfl, rfl⟩

abbrev uX12_isWord : ao_Mi := (yX12_isWord, cX12_isWord, 2, (some .boolean), [])
def gX12_isWord (r0 : Nat) (x1 : Int32) (M : ao_M) (ρ : ao_H) : Option (Int32 × ao_M) :=
  if ρ.2.1 r0 = 22 then
  if (M r0 9) = (3 : Int32) then
    if (M r0 10) = x1 then
      some ((1 : Int32), M)
    else
      some ((0 : Int32), M)
  else
    some ((0 : Int32), M)
  else none
set_option maxRecDepth 100000 in
set_option maxHeartbeats 4000000 in
theorem aX12_isWord {Γ : ao_C} (d : Nat) (hd : 0 ≤ d) (r0 : Nat) (x1 : Int32) (M : ao_M) (ρ : ao_H) {y : Int32 × ao_M} (h : gX12_isWord r0 x1 M ρ = some y) : ao_A Γ uX12_isWord d 0 0 [.ref (Γ.2.2.2 + r0), .int x1] (M, ρ) (ao_PI ρ y) := by
  refine ao_of (by decide) (ao_cat1 (Nat.le_of_ble_eq_true rfl)) (Nat.le_of_ble_eq_true rfl) ?_
  show ao_W Γ uX12_isWord (ao_rm d 0 0) (ao_Q Γ (ao_PI ρ y) 0 0) 0 0 0 [some (.ref (Γ.2.2.2 + r0)), some (.int x1)] [] (M, ρ)
  unfold gX12_isWord at h
  refine ao_aload_n 0 dX12_isWord_0 rfl rfl ?_
  obtain ⟨hk1, h⟩ := ao_some h
  refine an_getI r0 12 9 (q := (RX12, TX12, 83)) dX12_isWord_1 rfl hk1 (Nat.le_of_ble_eq_true rfl) rfl lf_X12_42 ?_
  refine ao_iconst (v := 3) dX12_isWord_4 (by decide) ?_
  refine ao_icmp_ne 20 dX12_isWord_5 (by decide) (fun c2 => ?_) (fun c2 => ?_)
  · replace h := ao_ifF h c2
    refine ao_iconst (v := 0) dX12_isWord_20 (by decide) ?_
    cases h
    exact ao_ireturn dX12_isWord_21 rfl rfl ⟨rfl, rfl⟩
  · replace h := ao_ifT h c2
    refine ao_aload_n 0 dX12_isWord_8 rfl rfl ?_
    refine an_getI r0 12 10 (q := (RX12, TX12, 83)) dX12_isWord_9 rfl hk1 (Nat.le_of_ble_eq_true rfl) rfl lf_X12_49 ?_
    refine ao_iload_n 1 dX12_isWord_12 rfl rfl ?_
    refine ao_icmp_ne 20 dX12_isWord_13 (by decide) (fun c3 => ?_) (fun c3 => ?_)
    · replace h := ao_ifF h c3
      refine ao_iconst (v := 0) dX12_isWord_20 (by decide) ?_
      cases h
      exact ao_ireturn dX12_isWord_21 rfl rfl ⟨rfl, rfl⟩
    · replace h := ao_ifT h c3
      refine ao_iconst (v := 1) dX12_isWord_16 (by decide) ?_
      refine ao_goto 21 dX12_isWord_17 (by decide) ?_
      cases h
      exact ao_ireturn dX12_isWord_21 rfl rfl ⟨rfl, rfl⟩

abbrev uX12_take : ao_Mi := (yX12_take, cX12_take, 2, (some .boolean), [])
def gX12_take (n : Nat) (r0 : Nat) (x1 : Int32) (M : ao_M) (ρ : ao_H) : Option (Int32 × ao_M) :=
  if ρ.2.1 r0 = 22 then
  (gX12_isSign r0 x1 M ρ).bind fun p2 =>
  if p2.1 = 0 then
    some ((0 : Int32), p2.2)
  else
    (gX12_token n r0 p2.2 ρ).bind fun p4 =>
    some ((1 : Int32), p4)
  else none
set_option maxRecDepth 100000 in
set_option maxHeartbeats 4000000 in
theorem aX12_take {Γ : ao_C} (d : Nat) (hd : 6 ≤ d) (n : Nat) (r0 : Nat) (x1 : Int32) (M : ao_M) (ρ : ao_H) {y : Int32 × ao_M} (h : gX12_take n r0 x1 M ρ = some y) : ao_A Γ uX12_take d 0 0 [.ref (Γ.2.2.2 + r0), .int x1] (M, ρ) (ao_PI ρ y) := by
  refine ao_of (by decide) (ao_cat1 (Nat.le_of_ble_eq_true rfl)) (Nat.le_of_ble_eq_true rfl) ?_
  show ao_W Γ uX12_take (ao_rm d 0 0) (ao_Q Γ (ao_PI ρ y) 0 0) 0 0 0 [some (.ref (Γ.2.2.2 + r0)), some (.int x1)] [] (M, ρ)
  unfold gX12_take at h
  refine ao_aload_n 0 dX12_take_0 rfl rfl ?_
  refine ao_iload_n 1 dX12_take_1 rfl rfl ?_
  obtain ⟨hk1, h⟩ := ao_some h
  obtain ⟨p2, hp2, h⟩ := ao_bind h
  refine an_callVi r0 12 (q := (RX12, TX12, 83)) [.int x1] (aX12_isSign (d - 1) (by omega) r0 x1 M ρ hp2) dX12_take_2 lc_X12_60 li_X12_isSign ls_X12_isSign rfl hk1 rfl rfl (Nat.le_of_ble_eq_true rfl) (ao_hR (by omega) (by decide)) ?_
  refine ao_if_ne 10 dX12_take_5 (by decide) (fun c3 => ?_) (fun c3 => ?_)
  · replace h := ao_ifF h c3
    refine ao_aload_n 0 dX12_take_10 rfl rfl ?_
    obtain ⟨p4, hp4, h⟩ := ao_bind h
    refine an_callVv r0 12 (q := (RX12, TX12, 83)) [] (aX12_token (d - 1) (by omega) _ r0 p2.2 ρ hp4) dX12_take_11 lc_X12_63 li_X12_token ls_X12_token rfl hk1 rfl rfl (Nat.le_of_ble_eq_true rfl) (ao_hR (by omega) (by decide)) ?_
    refine ao_iconst (v := 1) dX12_take_14 (by decide) ?_
    cases h
    exact ao_ireturn dX12_take_15 rfl rfl ⟨rfl, rfl⟩
  · replace h := ao_ifT h c3
    refine ao_iconst (v := 0) dX12_take_8 (by decide) ?_
    cases h
    exact ao_ireturn dX12_take_9 rfl rfl ⟨rfl, rfl⟩

abbrev uX12_need : ao_Mi := (yX12_need, cX12_need, 2, none, [])
def fX12_need : Nat → Nat → Nat → Int32 →  ao_M → ao_H → Option ((Int32 ⊕ String) × ao_S)
  | 0, _, _, _, _, _ => none
  | n + 1, pc, r0, x1, M, ρ =>
    if pc = 0 then
      if ρ.2.1 r0 = 22 then
      (gX12_take n r0 x1 M ρ).bind fun p2 =>
      if p2.1 = 0 then
        (gX12_wrong r0 (p2.2 r0 11) p2.2 ρ).bind fun p4 =>
        if ρ.2.1 p4.1 = 21 then
        some (.inr RX11, p4.2, ρ)
        else none
      else
        some (.inl 0, p2.2, ρ)
      else none
    else none
def gX12_need (n : Nat) (r0 : Nat) (x1 : Int32) (M : ao_M) (ρ : ao_H) : Option ((Int32 ⊕ String) × ao_S) := fX12_need n 0 r0 x1 M ρ
set_option maxRecDepth 100000 in
set_option maxHeartbeats 4000000 in
theorem mX12_need : ∀ n : Nat, (∀ (r0 : Nat) (x1 : Int32) (M : ao_M) (ρ : ao_H) (y : (Int32 ⊕ String) × ao_S), fX12_need n 0 r0 x1 M ρ = some y → ao_le ρ y.2.2) := by
  intro n
  induction n with
  | zero => exact fun _ _ _ _ _ h => ao_no h
  | succ n ih =>
    · intro r0 x1 M ρ y h
      rw [fX12_need.eq_2] at h
      replace h := ao_ifT h rfl
      obtain ⟨-, h⟩ := ao_some h
      obtain ⟨p2, hp2, h⟩ := ao_bind h
      rcases ao_ifC h with h | h
      · obtain ⟨p4, hp4, h⟩ := ao_bind h
        obtain ⟨-, h⟩ := ao_some h
        cases h
        exact ao_le_rf _
      · cases h
        exact ao_le_rf _
set_option maxRecDepth 100000 in
set_option maxHeartbeats 4000000 in
theorem wX12_need {Γ : ao_C} (d : Nat) (hd : 7 ≤ d) (MC MS : Nat) : ∀ n : Nat, (∀ (r0 : Nat) (x1 : Int32) (M : ao_M) (ρ : ao_H) (y : (Int32 ⊕ String) × ao_S), fX12_need n 0 r0 x1 M ρ = some y → ao_W Γ uX12_need (ao_rm d MC MS) (ao_Q Γ (ao_ZV y) MC MS) (ao_dc ρ y.2.2) (ao_ds ρ y.2.2) 0 [some (.ref (Γ.2.2.2 + r0)), some (.int x1)] [] (M, ρ)) := by
  intro n
  induction n with
  | zero => exact fun _ _ _ _ _ h => ao_no h
  | succ n ih =>
    · intro r0 x1 M ρ y h
      rw [fX12_need.eq_2] at h
      replace h := ao_ifT h rfl
      refine ao_aload_n 0 dX12_need_0 rfl rfl ?_
      refine ao_iload_n 1 dX12_need_1 rfl rfl ?_
      obtain ⟨hk1, h⟩ := ao_some h
      obtain ⟨p2, hp2, h⟩ := ao_bind h
      refine an_callVi r0 12 (q := (RX12, TX12, 83)) [.int x1] (aX12_take (d - 1) (by omega) _ r0 x1 M ρ hp2) dX12_need_2 lc_X12_67 li_X12_take ls_X12_take rfl hk1 rfl rfl (Nat.le_of_ble_eq_true rfl) (ao_hR (by omega) (by decide)) ?_
      refine ao_if_ne 17 dX12_need_5 (by decide) (fun c3 => ?_) (fun c3 => ?_)
      · replace h := ao_ifF h c3
        cases h
        exact ao_return dX12_need_17 rfl ⟨rfl, rfl⟩
      · replace h := ao_ifT h c3
        refine ao_aload_n 0 dX12_need_8 rfl rfl ?_
        refine ao_aload_n 0 dX12_need_9 rfl rfl ?_
        refine an_getI r0 12 11 (q := (RX12, TX12, 83)) dX12_need_10 rfl hk1 (Nat.le_of_ble_eq_true rfl) rfl lf_X12_39 ?_
        obtain ⟨p4, hp4, h⟩ := ao_bind h
        refine an_callVr r0 12 (q := (RX12, TX12, 83)) [.int (p2.2 r0 11)] (aX12_wrong (d - 1) (by omega) r0 (p2.2 r0 11) p2.2 ρ hp4) dX12_need_13 lc_X12_70 li_X12_wrong ls_X12_wrong rfl hk1 rfl rfl (Nat.le_of_ble_eq_true rfl) (ao_hR (by omega) (by decide)) ?_
        obtain ⟨hk5, h⟩ := ao_some h
        cases h
        exact cx_athrow p4.1 11 (q := (RX11, TX11, 6)) dX12_need_16 rfl hk5 rfl ⟨rfl, rfl⟩
theorem me_X12_need (n : Nat) (r0 : Nat) (x1 : Int32) (M : ao_M) (ρ : ao_H) {y : (Int32 ⊕ String) × ao_S} (h : gX12_need n r0 x1 M ρ = some y) : ao_le ρ y.2.2 := (mX12_need n) r0 x1 M ρ y h
set_option maxRecDepth 100000 in
set_option maxHeartbeats 4000000 in
theorem aX12_need {Γ : ao_C} (d : Nat) (hd : 7 ≤ d) (n : Nat) (r0 : Nat) (x1 : Int32) (M : ao_M) (ρ : ao_H) {y : (Int32 ⊕ String) × ao_S} (h : gX12_need n r0 x1 M ρ = some y) : ao_A Γ uX12_need d (ao_dc ρ y.2.2) (ao_ds ρ y.2.2) [.ref (Γ.2.2.2 + r0), .int x1] (M, ρ) (ao_ZV y) := by
  refine ao_of (by decide) (ao_cat1 (Nat.le_of_ble_eq_true rfl)) (Nat.le_of_ble_eq_true rfl) ?_
  show ao_W Γ uX12_need (ao_rm d (ao_dc ρ y.2.2) (ao_ds ρ y.2.2)) (ao_Q Γ (ao_ZV y) (ao_dc ρ y.2.2) (ao_ds ρ y.2.2)) (ao_dc ρ y.2.2) (ao_ds ρ y.2.2) 0 [some (.ref (Γ.2.2.2 + r0)), some (.int x1)] [] (M, ρ)
  exact (wX12_need d hd _ _ n) r0 x1 M ρ y h

abbrev uX12_make : ao_Mi := (yX12_make, cX12_make, 4, (some .int), [])
def gX12_make (r0 : Nat) (x1 : Int32) (x2 : Int32) (x3 : Int32) (M : ao_M) (ρ : ao_H) : Option (Int32 × ao_M) :=
  if ρ.2.1 r0 = 22 then
  (ρ.1 r0 12).bind fun j2 =>
  if ρ.2.1 j2 = 0 then
  if ¬ (((3 : Int32) * (M r0 13)) < 0 ∨ ρ.2.2.1 j2 ≤ ((3 : Int32) * (M r0 13)).toNatClampNeg) then
  ao_let (ao_u M j2 ((3 : Int32) * (M r0 13)).toNatClampNeg x1) fun M5 =>
  if ¬ ((((3 : Int32) * (M5 r0 13)) + (1 : Int32)) < 0 ∨ ρ.2.2.1 j2 ≤ (((3 : Int32) * (M5 r0 13)) + (1 : Int32)).toNatClampNeg) then
  ao_let (ao_u M5 j2 (((3 : Int32) * (M5 r0 13)) + (1 : Int32)).toNatClampNeg x2) fun M7 =>
  if ¬ ((((3 : Int32) * (M7 r0 13)) + (2 : Int32)) < 0 ∨ ρ.2.2.1 j2 ≤ (((3 : Int32) * (M7 r0 13)) + (2 : Int32)).toNatClampNeg) then
  ao_let (ao_u M7 j2 (((3 : Int32) * (M7 r0 13)) + (2 : Int32)).toNatClampNeg x3) fun M9 =>
  ao_let (ao_u M9 r0 13 ((M9 r0 13) + (1 : Int32))) fun M10 =>
  some (((M10 r0 13) - (1 : Int32)), M10)
  else none
  else none
  else none
  else none
  else none
set_option maxRecDepth 100000 in
set_option maxHeartbeats 4000000 in
theorem aX12_make {Γ : ao_C} (d : Nat) (hd : 0 ≤ d) (r0 : Nat) (x1 : Int32) (x2 : Int32) (x3 : Int32) (M : ao_M) (ρ : ao_H) {y : Int32 × ao_M} (h : gX12_make r0 x1 x2 x3 M ρ = some y) : ao_A Γ uX12_make d 0 0 [.ref (Γ.2.2.2 + r0), .int x1, .int x2, .int x3] (M, ρ) (ao_PI ρ y) := by
  refine ao_of (by decide) (ao_cat1 (Nat.le_of_ble_eq_true rfl)) (Nat.le_of_ble_eq_true rfl) ?_
  show ao_W Γ uX12_make (ao_rm d 0 0) (ao_Q Γ (ao_PI ρ y) 0 0) 0 0 0 [some (.ref (Γ.2.2.2 + r0)), some (.int x1), some (.int x2), some (.int x3)] [] (M, ρ)
  unfold gX12_make at h
  refine ao_aload_n 0 dX12_make_0 rfl rfl ?_
  obtain ⟨hk1, h⟩ := ao_some h
  obtain ⟨j2, hj2, h⟩ := ao_bind h
  refine an_getR r0 12 12 (q := (RX12, TX12, 83)) dX12_make_1 rfl hk1 (Nat.le_of_ble_eq_true rfl) rfl lf_X12_74 hj2 ?_
  refine ao_iconst (v := 3) dX12_make_4 (by decide) ?_
  refine ao_aload_n 0 dX12_make_5 rfl rfl ?_
  refine an_getI r0 12 13 (q := (RX12, TX12, 83)) dX12_make_6 rfl hk1 (Nat.le_of_ble_eq_true rfl) rfl lf_X12_78 ?_
  refine ao_imul dX12_make_9 ?_
  refine ao_iload_n 1 dX12_make_10 rfl rfl ?_
  obtain ⟨hk3, h⟩ := ao_some h
  obtain ⟨hb4, h⟩ := ao_some h
  refine an_iastore j2 dX12_make_11 hk3 hb4 (fun M5 hM5 => ?_)
  replace h := ao_letD h hM5
  refine ao_aload_n 0 dX12_make_12 rfl rfl ?_
  refine an_getR r0 12 12 (q := (RX12, TX12, 83)) dX12_make_13 rfl hk1 (Nat.le_of_ble_eq_true rfl) rfl lf_X12_74 hj2 ?_
  refine ao_iconst (v := 3) dX12_make_16 (by decide) ?_
  refine ao_aload_n 0 dX12_make_17 rfl rfl ?_
  refine an_getI r0 12 13 (q := (RX12, TX12, 83)) dX12_make_18 rfl hk1 (Nat.le_of_ble_eq_true rfl) rfl lf_X12_78 ?_
  refine ao_imul dX12_make_21 ?_
  refine ao_iconst (v := 1) dX12_make_22 (by decide) ?_
  refine ao_iadd dX12_make_23 ?_
  refine ao_iload_n 2 dX12_make_24 rfl rfl ?_
  obtain ⟨hb6, h⟩ := ao_some h
  refine an_iastore j2 dX12_make_25 hk3 hb6 (fun M7 hM7 => ?_)
  replace h := ao_letD h hM7
  refine ao_aload_n 0 dX12_make_26 rfl rfl ?_
  refine an_getR r0 12 12 (q := (RX12, TX12, 83)) dX12_make_27 rfl hk1 (Nat.le_of_ble_eq_true rfl) rfl lf_X12_74 hj2 ?_
  refine ao_iconst (v := 3) dX12_make_30 (by decide) ?_
  refine ao_aload_n 0 dX12_make_31 rfl rfl ?_
  refine an_getI r0 12 13 (q := (RX12, TX12, 83)) dX12_make_32 rfl hk1 (Nat.le_of_ble_eq_true rfl) rfl lf_X12_78 ?_
  refine ao_imul dX12_make_35 ?_
  refine ao_iconst (v := 2) dX12_make_36 (by decide) ?_
  refine ao_iadd dX12_make_37 ?_
  refine ao_iload_n 3 dX12_make_38 rfl rfl ?_
  obtain ⟨hb8, h⟩ := ao_some h
  refine an_iastore j2 dX12_make_39 hk3 hb8 (fun M9 hM9 => ?_)
  replace h := ao_letD h hM9
  refine ao_aload_n 0 dX12_make_40 rfl rfl ?_
  refine ao_dup dX12_make_41 rfl ?_
  refine an_getI r0 12 13 (q := (RX12, TX12, 83)) dX12_make_42 rfl hk1 (Nat.le_of_ble_eq_true rfl) rfl lf_X12_78 ?_
  refine ao_iconst (v := 1) dX12_make_45 (by decide) ?_
  refine ao_iadd dX12_make_46 ?_
  refine an_putI r0 12 13 (q := (RX12, TX12, 83)) dX12_make_47 rfl hk1 (Nat.le_of_ble_eq_true rfl) lf_X12_78 rfl rfl rfl rfl (fun M10 hM10 => ?_)
  replace h := ao_letD h hM10
  refine ao_aload_n 0 dX12_make_50 rfl rfl ?_
  refine an_getI r0 12 13 (q := (RX12, TX12, 83)) dX12_make_51 rfl hk1 (Nat.le_of_ble_eq_true rfl) rfl lf_X12_78 ?_
  refine ao_iconst (v := 1) dX12_make_54 (by decide) ?_
  refine ao_isub dX12_make_55 ?_
  cases h
  exact ao_ireturn dX12_make_56 rfl rfl ⟨rfl, rfl⟩

abbrev uX12_enter : ao_Mi := (yX12_enter, cX12_enter, 1, none, [])
def fX12_enter : Nat → Nat → Nat →  ao_M → ao_H → Option ((Int32 ⊕ String) × ao_S)
  | 0, _, _, _, _ => none
  | n + 1, pc, r0, M, ρ =>
    if pc = 0 then
      if ρ.2.1 r0 = 22 then
      if (M r0 14) = (10 : Int32) then
        (gX12_wrong r0 (M r0 11) M ρ).bind fun p4 =>
        if ρ.2.1 p4.1 = 21 then
        some (.inr RX11, p4.2, ρ)
        else none
      else
        ao_let (ao_u M r0 14 ((M r0 14) + (1 : Int32))) fun M3 =>
        some (.inl 0, M3, ρ)
      else none
    else none
def gX12_enter (n : Nat) (r0 : Nat) (M : ao_M) (ρ : ao_H) : Option ((Int32 ⊕ String) × ao_S) := fX12_enter n 0 r0 M ρ
set_option maxRecDepth 100000 in
set_option maxHeartbeats 4000000 in
theorem mX12_enter : ∀ n : Nat, (∀ (r0 : Nat) (M : ao_M) (ρ : ao_H) (y : (Int32 ⊕ String) × ao_S), fX12_enter n 0 r0 M ρ = some y → ao_le ρ y.2.2) := by
  intro n
  induction n with
  | zero => exact fun _ _ _ _ h => ao_no h
  | succ n ih =>
    · intro r0 M ρ y h
      rw [fX12_enter.eq_2] at h
      replace h := ao_ifT h rfl
      obtain ⟨-, h⟩ := ao_some h
      rcases ao_ifC h with h | h
      · obtain ⟨p4, hp4, h⟩ := ao_bind h
        obtain ⟨-, h⟩ := ao_some h
        cases h
        exact ao_le_rf _
      · replace h := ao_letD h rfl
        generalize (ao_u M r0 14 ((M r0 14) + (1 : Int32))) = M3 at h
        cases h
        exact ao_le_rf _
set_option maxRecDepth 100000 in
set_option maxHeartbeats 4000000 in
theorem wX12_enter {Γ : ao_C} (d : Nat) (hd : 1 ≤ d) (MC MS : Nat) : ∀ n : Nat, (∀ (r0 : Nat) (M : ao_M) (ρ : ao_H) (y : (Int32 ⊕ String) × ao_S), fX12_enter n 0 r0 M ρ = some y → ao_W Γ uX12_enter (ao_rm d MC MS) (ao_Q Γ (ao_ZV y) MC MS) (ao_dc ρ y.2.2) (ao_ds ρ y.2.2) 0 [some (.ref (Γ.2.2.2 + r0))] [] (M, ρ)) := by
  intro n
  induction n with
  | zero => exact fun _ _ _ _ h => ao_no h
  | succ n ih =>
    · intro r0 M ρ y h
      rw [fX12_enter.eq_2] at h
      replace h := ao_ifT h rfl
      refine ao_aload_n 0 dX12_enter_0 rfl rfl ?_
      obtain ⟨hk1, h⟩ := ao_some h
      refine an_getI r0 12 14 (q := (RX12, TX12, 83)) dX12_enter_1 rfl hk1 (Nat.le_of_ble_eq_true rfl) rfl lf_X12_81 ?_
      refine ao_bipush (v := 10) dX12_enter_4 (by decide) ?_
      refine ao_icmp_ne 18 dX12_enter_6 (by decide) (fun c2 => ?_) (fun c2 => ?_)
      · replace h := ao_ifF h c2
        refine ao_aload_n 0 dX12_enter_18 rfl rfl ?_
        refine ao_dup dX12_enter_19 rfl ?_
        refine an_getI r0 12 14 (q := (RX12, TX12, 83)) dX12_enter_20 rfl hk1 (Nat.le_of_ble_eq_true rfl) rfl lf_X12_81 ?_
        refine ao_iconst (v := 1) dX12_enter_23 (by decide) ?_
        refine ao_iadd dX12_enter_24 ?_
        refine an_putI r0 12 14 (q := (RX12, TX12, 83)) dX12_enter_25 rfl hk1 (Nat.le_of_ble_eq_true rfl) lf_X12_81 rfl rfl rfl rfl (fun M3 hM3 => ?_)
        replace h := ao_letD h hM3
        cases h
        exact ao_return dX12_enter_28 rfl ⟨rfl, rfl⟩
      · replace h := ao_ifT h c2
        refine ao_aload_n 0 dX12_enter_9 rfl rfl ?_
        refine ao_aload_n 0 dX12_enter_10 rfl rfl ?_
        refine an_getI r0 12 11 (q := (RX12, TX12, 83)) dX12_enter_11 rfl hk1 (Nat.le_of_ble_eq_true rfl) rfl lf_X12_39 ?_
        obtain ⟨p4, hp4, h⟩ := ao_bind h
        refine an_callVr r0 12 (q := (RX12, TX12, 83)) [.int (M r0 11)] (aX12_wrong (d - 1) (by omega) r0 (M r0 11) M ρ hp4) dX12_enter_14 lc_X12_70 li_X12_wrong ls_X12_wrong rfl hk1 rfl rfl (Nat.le_of_ble_eq_true rfl) (ao_hR (by omega) (by decide)) ?_
        obtain ⟨hk5, h⟩ := ao_some h
        cases h
        exact cx_athrow p4.1 11 (q := (RX11, TX11, 6)) dX12_enter_17 rfl hk5 rfl ⟨rfl, rfl⟩
theorem me_X12_enter (n : Nat) (r0 : Nat) (M : ao_M) (ρ : ao_H) {y : (Int32 ⊕ String) × ao_S} (h : gX12_enter n r0 M ρ = some y) : ao_le ρ y.2.2 := (mX12_enter n) r0 M ρ y h
set_option maxRecDepth 100000 in
set_option maxHeartbeats 4000000 in
theorem aX12_enter {Γ : ao_C} (d : Nat) (hd : 1 ≤ d) (n : Nat) (r0 : Nat) (M : ao_M) (ρ : ao_H) {y : (Int32 ⊕ String) × ao_S} (h : gX12_enter n r0 M ρ = some y) : ao_A Γ uX12_enter d (ao_dc ρ y.2.2) (ao_ds ρ y.2.2) [.ref (Γ.2.2.2 + r0)] (M, ρ) (ao_ZV y) := by
  refine ao_of (by decide) (ao_cat1 (Nat.le_of_ble_eq_true rfl)) (Nat.le_of_ble_eq_true rfl) ?_
  show ao_W Γ uX12_enter (ao_rm d (ao_dc ρ y.2.2) (ao_ds ρ y.2.2)) (ao_Q Γ (ao_ZV y) (ao_dc ρ y.2.2) (ao_ds ρ y.2.2)) (ao_dc ρ y.2.2) (ao_ds ρ y.2.2) 0 [some (.ref (Γ.2.2.2 + r0))] [] (M, ρ)
  exact (wX12_enter d hd _ _ n) r0 M ρ y h

abbrev uX12_remember : ao_Mi := (yX12_remember, cX12_remember, 2, none, [])
def fX12_remember : Nat → Nat → Nat → Int32 → Nat → Nat →  ao_M → ao_H → Option (ao_S)
  | 0, _, _, _, _, _, _, _ => none
  | n + 1, pc, r0, x1, q0, q1, M, ρ =>
    if pc = 0 then
      if ρ.2.1 r0 = 22 then
      (ρ.1 r0 22).bind fun j2 =>
      if ρ.2.1 j2 = 0 then
      if (M r0 25) = (nI (ρ.2.2.1 j2)) then
        (gX12_longer n j2 M ρ).bind fun p5 =>
        fX12_remember n 20 r0 x1 p5.1 r0 p5.2.1 p5.2.2
      else
        fX12_remember n 45 r0 x1 0 0 M ρ
      else none
      else none
    else if pc = 20 then
      if ρ.2.1 q1 = 22 then
      fX12_remember n 23 r0 x1 0 0 M (ao_r ρ q1 22 (some q0))
      else none
    else if pc = 23 then
      if ρ.2.1 r0 = 22 then
      (ρ.1 r0 23).bind fun j8 =>
      (gX12_longer n j8 M ρ).bind fun p9 =>
      fX12_remember n 31 r0 x1 p9.1 r0 p9.2.1 p9.2.2
      else none
    else if pc = 31 then
      if ρ.2.1 q1 = 22 then
      fX12_remember n 34 r0 x1 0 0 M (ao_r ρ q1 23 (some q0))
      else none
    else if pc = 34 then
      if ρ.2.1 r0 = 22 then
      (ρ.1 r0 24).bind fun j12 =>
      (gX12_longer n j12 M ρ).bind fun p13 =>
      fX12_remember n 42 r0 x1 p13.1 r0 p13.2.1 p13.2.2
      else none
    else if pc = 42 then
      if ρ.2.1 q1 = 22 then
      fX12_remember n 45 r0 x1 0 0 M (ao_r ρ q1 24 (some q0))
      else none
    else if pc = 45 then
      if ρ.2.1 r0 = 22 then
      (ρ.1 r0 22).bind fun j16 =>
      if ρ.2.1 j16 = 0 then
      if ¬ ((M r0 25) < 0 ∨ ρ.2.2.1 j16 ≤ (M r0 25).toNatClampNeg) then
      ao_let (ao_u M j16 (M r0 25).toNatClampNeg (M r0 26)) fun M19 =>
      (ρ.1 r0 23).bind fun j20 =>
      (ρ.1 r0 17).bind fun j21 =>
      if ρ.2.1 j21 = 0 then
      if ¬ (x1 < 0 ∨ ρ.2.2.1 j21 ≤ x1.toNatClampNeg) then
      if ρ.2.1 j20 = 0 then
      if ¬ ((M19 r0 25) < 0 ∨ ρ.2.2.1 j20 ≤ (M19 r0 25).toNatClampNeg) then
      ao_let (ao_u M19 j20 (M19 r0 25).toNatClampNeg (M19 j21 x1.toNatClampNeg)) fun M26 =>
      (ρ.1 r0 24).bind fun j27 =>
      (ρ.1 r0 21).bind fun j28 =>
      if ρ.2.1 j28 = 0 then
      if ¬ (x1 < 0 ∨ ρ.2.2.1 j28 ≤ x1.toNatClampNeg) then
      if ρ.2.1 j27 = 0 then
      if ¬ ((M26 r0 25) < 0 ∨ ρ.2.2.1 j27 ≤ (M26 r0 25).toNatClampNeg) then
      ao_let (ao_u M26 j27 (M26 r0 25).toNatClampNeg (M26 j28 x1.toNatClampNeg)) fun M33 =>
      ao_let (ao_u M33 j28 x1.toNatClampNeg (M33 r0 25)) fun M34 =>
      ao_let (ao_u M34 r0 25 ((M34 r0 25) + (1 : Int32))) fun M35 =>
      (ρ.1 r0 18).bind fun j36 =>
      if ρ.2.1 j36 = 0 then
      if ¬ (x1 < 0 ∨ ρ.2.2.1 j36 ≤ x1.toNatClampNeg) then
      ao_let (ao_u M35 j36 x1.toNatClampNeg (M35 r0 26)) fun M39 =>
      some (M39, ρ)
      else none
      else none
      else none
      else none
      else none
      else none
      else none
      else none
      else none
      else none
      else none
      else none
      else none
    else none
def gX12_remember (n : Nat) (r0 : Nat) (x1 : Int32) (M : ao_M) (ρ : ao_H) : Option (ao_S) := fX12_remember n 0 r0 x1 0 0 M ρ
set_option maxRecDepth 100000 in
set_option maxHeartbeats 4000000 in
theorem mX12_remember : ∀ n : Nat, (∀ (r0 : Nat) (x1 : Int32) (M : ao_M) (ρ : ao_H) (y : ao_S), fX12_remember n 0 r0 x1 0 0 M ρ = some y → ao_le ρ y.2) ∧ (∀ (r0 : Nat) (x1 : Int32) (q0 : Nat) (q1 : Nat) (M : ao_M) (ρ : ao_H) (y : ao_S), fX12_remember n 20 r0 x1 q0 q1 M ρ = some y → ao_le ρ y.2) ∧ (∀ (r0 : Nat) (x1 : Int32) (M : ao_M) (ρ : ao_H) (y : ao_S), fX12_remember n 23 r0 x1 0 0 M ρ = some y → ao_le ρ y.2) ∧ (∀ (r0 : Nat) (x1 : Int32) (q0 : Nat) (q1 : Nat) (M : ao_M) (ρ : ao_H) (y : ao_S), fX12_remember n 31 r0 x1 q0 q1 M ρ = some y → ao_le ρ y.2) ∧ (∀ (r0 : Nat) (x1 : Int32) (M : ao_M) (ρ : ao_H) (y : ao_S), fX12_remember n 34 r0 x1 0 0 M ρ = some y → ao_le ρ y.2) ∧ (∀ (r0 : Nat) (x1 : Int32) (q0 : Nat) (q1 : Nat) (M : ao_M) (ρ : ao_H) (y : ao_S), fX12_remember n 42 r0 x1 q0 q1 M ρ = some y → ao_le ρ y.2) ∧ (∀ (r0 : Nat) (x1 : Int32) (M : ao_M) (ρ : ao_H) (y : ao_S), fX12_remember n 45 r0 x1 0 0 M ρ = some y → ao_le ρ y.2) := by
  intro n
  induction n with
  | zero => exact ⟨fun _ _ _ _ _ h => ao_no h, fun _ _ _ _ _ _ _ h => ao_no h, fun _ _ _ _ _ h => ao_no h, fun _ _ _ _ _ _ _ h => ao_no h, fun _ _ _ _ _ h => ao_no h, fun _ _ _ _ _ _ _ h => ao_no h, fun _ _ _ _ _ h => ao_no h⟩
  | succ n ih =>
    refine ⟨?_, ?_, ?_, ?_, ?_, ?_, ?_⟩
    · intro r0 x1 M ρ y h
      replace h := ao_ifT h rfl
      obtain ⟨-, h⟩ := ao_some h
      obtain ⟨j2, hj2, h⟩ := ao_bind h
      obtain ⟨-, h⟩ := ao_some h
      rcases ao_ifC h with h | h
      · obtain ⟨p5, hp5, h⟩ := ao_bind h
        exact ao_le_tr (me_X12_longer n j2 M ρ hp5) (ih.2.1 r0 x1 p5.1 r0 p5.2.1 p5.2.2 _ h)
      · exact ih.2.2.2.2.2.2 r0 x1 M ρ _ h
    · intro r0 x1 q0 q1 M ρ y h
      replace h := ao_ifF h (by decide)
      replace h := ao_ifT h rfl
      obtain ⟨-, h⟩ := ao_some h
      exact ao_le_tr (ao_le_r _ _ _ _) (ih.2.2.1 r0 x1 M (ao_r ρ q1 22 (some q0)) _ h)
    · intro r0 x1 M ρ y h
      replace h := ao_ifF h (by decide)
      replace h := ao_ifF h (by decide)
      replace h := ao_ifT h rfl
      obtain ⟨-, h⟩ := ao_some h
      obtain ⟨j8, hj8, h⟩ := ao_bind h
      obtain ⟨p9, hp9, h⟩ := ao_bind h
      exact ao_le_tr (me_X12_longer n j8 M ρ hp9) (ih.2.2.2.1 r0 x1 p9.1 r0 p9.2.1 p9.2.2 _ h)
    · intro r0 x1 q0 q1 M ρ y h
      replace h := ao_ifF h (by decide)
      replace h := ao_ifF h (by decide)
      replace h := ao_ifF h (by decide)
      replace h := ao_ifT h rfl
      obtain ⟨-, h⟩ := ao_some h
      exact ao_le_tr (ao_le_r _ _ _ _) (ih.2.2.2.2.1 r0 x1 M (ao_r ρ q1 23 (some q0)) _ h)
    · intro r0 x1 M ρ y h
      replace h := ao_ifF h (by decide)
      replace h := ao_ifF h (by decide)
      replace h := ao_ifF h (by decide)
      replace h := ao_ifF h (by decide)
      replace h := ao_ifT h rfl
      obtain ⟨-, h⟩ := ao_some h
      obtain ⟨j12, hj12, h⟩ := ao_bind h
      obtain ⟨p13, hp13, h⟩ := ao_bind h
      exact ao_le_tr (me_X12_longer n j12 M ρ hp13) (ih.2.2.2.2.2.1 r0 x1 p13.1 r0 p13.2.1 p13.2.2 _ h)
    · intro r0 x1 q0 q1 M ρ y h
      replace h := ao_ifF h (by decide)
      replace h := ao_ifF h (by decide)
      replace h := ao_ifF h (by decide)
      replace h := ao_ifF h (by decide)
      replace h := ao_ifF h (by decide)
      replace h := ao_ifT h rfl
      obtain ⟨-, h⟩ := ao_some h
      exact ao_le_tr (ao_le_r _ _ _ _) (ih.2.2.2.2.2.2 r0 x1 M (ao_r ρ q1 24 (some q0)) _ h)
    · intro r0 x1 M ρ y h
      replace h := ao_ifF h (by decide)
      replace h := ao_ifF h (by decide)
      replace h := ao_ifF h (by decide)
      replace h := ao_ifF h (by decide)
      replace h := ao_ifF h (by decide)
      replace h := ao_ifF h (by decide)
      replace h := ao_ifT h rfl
      obtain ⟨-, h⟩ := ao_some h
      obtain ⟨j16, hj16, h⟩ := ao_bind h
      obtain ⟨-, h⟩ := ao_some h
      obtain ⟨-, h⟩ := ao_some h
      replace h := ao_letD h rfl
      generalize (ao_u M j16 (M r0 25).toNatClampNeg (M r0 26)) = M19 at h
      obtain ⟨j20, hj20, h⟩ := ao_bind h
      obtain ⟨j21, hj21, h⟩ := ao_bind h
      obtain ⟨-, h⟩ := ao_some h
      obtain ⟨-, h⟩ := ao_some h
      obtain ⟨-, h⟩ := ao_some h
      obtain ⟨-, h⟩ := ao_some h
      replace h := ao_letD h rfl
      generalize (ao_u M19 j20 (M19 r0 25).toNatClampNeg (M19 j21 x1.toNatClampNeg)) = M26 at h
      obtain ⟨j27, hj27, h⟩ := ao_bind h
      obtain ⟨j28, hj28, h⟩ := ao_bind h
      obtain ⟨-, h⟩ := ao_some h
      obtain ⟨-, h⟩ := ao_some h
      obtain ⟨-, h⟩ := ao_some h
      obtain ⟨-, h⟩ := ao_some h
      replace h := ao_letD h rfl
      generalize (ao_u M26 j27 (M26 r0 25).toNatClampNeg (M26 j28 x1.toNatClampNeg)) = M33 at h
      replace h := ao_letD h rfl
      generalize (ao_u M33 j28 x1.toNatClampNeg (M33 r0 25)) = M34 at h
      replace h := ao_letD h rfl
      generalize (ao_u M34 r0 25 ((M34 r0 25) + (1 : Int32))) = M35 at h
      obtain ⟨j36, hj36, h⟩ := ao_bind h
      obtain ⟨-, h⟩ := ao_some h
      obtain ⟨-, h⟩ := ao_some h
      replace h := ao_letD h rfl
      generalize (ao_u M35 j36 x1.toNatClampNeg (M35 r0 26)) = M39 at h
      cases h
      exact ao_le_rf _
set_option maxRecDepth 100000 in
set_option maxHeartbeats 4000000 in
theorem wX12_remember {Γ : ao_C} (d : Nat) (hd : 1 ≤ d) (MC MS : Nat) : ∀ n : Nat, (∀ (r0 : Nat) (x1 : Int32) (M : ao_M) (ρ : ao_H) (y : ao_S), fX12_remember n 0 r0 x1 0 0 M ρ = some y → ao_W Γ uX12_remember (ao_rm d MC MS) (ao_Q Γ (ao_QV y) MC MS) (ao_dc ρ y.2) (ao_ds ρ y.2) 0 [some (.ref (Γ.2.2.2 + r0)), some (.int x1)] [] (M, ρ)) ∧ (∀ (r0 : Nat) (x1 : Int32) (q0 : Nat) (q1 : Nat) (M : ao_M) (ρ : ao_H) (y : ao_S), fX12_remember n 20 r0 x1 q0 q1 M ρ = some y → ao_W Γ uX12_remember (ao_rm d MC MS) (ao_Q Γ (ao_QV y) MC MS) (ao_dc ρ y.2) (ao_ds ρ y.2) 20 [some (.ref (Γ.2.2.2 + r0)), some (.int x1)] [.ref (Γ.2.2.2 + q0), .ref (Γ.2.2.2 + q1)] (M, ρ)) ∧ (∀ (r0 : Nat) (x1 : Int32) (M : ao_M) (ρ : ao_H) (y : ao_S), fX12_remember n 23 r0 x1 0 0 M ρ = some y → ao_W Γ uX12_remember (ao_rm d MC MS) (ao_Q Γ (ao_QV y) MC MS) (ao_dc ρ y.2) (ao_ds ρ y.2) 23 [some (.ref (Γ.2.2.2 + r0)), some (.int x1)] [] (M, ρ)) ∧ (∀ (r0 : Nat) (x1 : Int32) (q0 : Nat) (q1 : Nat) (M : ao_M) (ρ : ao_H) (y : ao_S), fX12_remember n 31 r0 x1 q0 q1 M ρ = some y → ao_W Γ uX12_remember (ao_rm d MC MS) (ao_Q Γ (ao_QV y) MC MS) (ao_dc ρ y.2) (ao_ds ρ y.2) 31 [some (.ref (Γ.2.2.2 + r0)), some (.int x1)] [.ref (Γ.2.2.2 + q0), .ref (Γ.2.2.2 + q1)] (M, ρ)) ∧ (∀ (r0 : Nat) (x1 : Int32) (M : ao_M) (ρ : ao_H) (y : ao_S), fX12_remember n 34 r0 x1 0 0 M ρ = some y → ao_W Γ uX12_remember (ao_rm d MC MS) (ao_Q Γ (ao_QV y) MC MS) (ao_dc ρ y.2) (ao_ds ρ y.2) 34 [some (.ref (Γ.2.2.2 + r0)), some (.int x1)] [] (M, ρ)) ∧ (∀ (r0 : Nat) (x1 : Int32) (q0 : Nat) (q1 : Nat) (M : ao_M) (ρ : ao_H) (y : ao_S), fX12_remember n 42 r0 x1 q0 q1 M ρ = some y → ao_W Γ uX12_remember (ao_rm d MC MS) (ao_Q Γ (ao_QV y) MC MS) (ao_dc ρ y.2) (ao_ds ρ y.2) 42 [some (.ref (Γ.2.2.2 + r0)), some (.int x1)] [.ref (Γ.2.2.2 + q0), .ref (Γ.2.2.2 + q1)] (M, ρ)) ∧ (∀ (r0 : Nat) (x1 : Int32) (M : ao_M) (ρ : ao_H) (y : ao_S), fX12_remember n 45 r0 x1 0 0 M ρ = some y → ao_W Γ uX12_remember (ao_rm d MC MS) (ao_Q Γ (ao_QV y) MC MS) (ao_dc ρ y.2) (ao_ds ρ y.2) 45 [some (.ref (Γ.2.2.2 + r0)), some (.int x1)] [] (M, ρ)) := by
  intro n
  induction n with
  | zero => exact ⟨fun _ _ _ _ _ h => ao_no h, fun _ _ _ _ _ _ _ h => ao_no h, fun _ _ _ _ _ h => ao_no h, fun _ _ _ _ _ _ _ h => ao_no h, fun _ _ _ _ _ h => ao_no h, fun _ _ _ _ _ _ _ h => ao_no h, fun _ _ _ _ _ h => ao_no h⟩
  | succ n ih =>
    refine ⟨?_, ?_, ?_, ?_, ?_, ?_, ?_⟩
    · intro r0 x1 M ρ y h
      replace h := ao_ifT h rfl
      refine ao_aload_n 0 dX12_remember_0 rfl rfl ?_
      obtain ⟨hk1, h⟩ := ao_some h
      refine an_getI r0 12 25 (q := (RX12, TX12, 83)) dX12_remember_1 rfl hk1 (Nat.le_of_ble_eq_true rfl) rfl lf_X12_132 ?_
      refine ao_aload_n 0 dX12_remember_4 rfl rfl ?_
      obtain ⟨j2, hj2, h⟩ := ao_bind h
      refine an_getR r0 12 22 (q := (RX12, TX12, 83)) dX12_remember_5 rfl hk1 (Nat.le_of_ble_eq_true rfl) rfl lf_X12_135 hj2 ?_
      obtain ⟨hk3, h⟩ := ao_some h
      refine an_alen j2 0 dX12_remember_8 hk3 (by decide) ?_
      refine ao_icmp_ne 45 dX12_remember_9 (by decide) (fun c4 => ?_) (fun c4 => ?_)
      · replace h := ao_ifF h c4
        exact ih.2.2.2.2.2.2 r0 x1 M ρ _ h
      · replace h := ao_ifT h c4
        refine ao_aload_n 0 dX12_remember_12 rfl rfl ?_
        refine ao_aload_n 0 dX12_remember_13 rfl rfl ?_
        refine an_getR r0 12 22 (q := (RX12, TX12, 83)) dX12_remember_14 rfl hk1 (Nat.le_of_ble_eq_true rfl) rfl lf_X12_135 hj2 ?_
        obtain ⟨p5, hp5, h⟩ := ao_bind h
        refine ba_callSr [.ref (Γ.2.2.2 + j2)] (aX12_longer (d - 1) (by omega) n j2 M ρ hp5) dX12_remember_17 lc_X12_138 lt_X12_longer rfl rfl (Nat.le_of_ble_eq_true rfl) (ao_hR (by omega) (by decide)) (ao_leC (me_X12_longer n j2 M ρ hp5) ((mX12_remember n).2.1 r0 x1 p5.1 r0 p5.2.1 p5.2.2 _ h)) (ao_leS (me_X12_longer n j2 M ρ hp5) ((mX12_remember n).2.1 r0 x1 p5.1 r0 p5.2.1 p5.2.2 _ h)) ?_
        exact ih.2.1 r0 x1 p5.1 r0 p5.2.1 p5.2.2 _ h
    · intro r0 x1 q0 q1 M ρ y h
      replace h := ao_ifF h (by decide)
      replace h := ao_ifT h rfl
      obtain ⟨hk6, h⟩ := ao_some h
      refine ba_putR q1 12 22 (q := (RX12, TX12, 83)) dX12_remember_20 rfl hk6 (Nat.le_of_ble_eq_true rfl) lf_X12_135 (Or.inl rfl) rfl rfl rfl ?_
      exact ih.2.2.1 r0 x1 M (ao_r ρ q1 22 (some q0)) _ h
    · intro r0 x1 M ρ y h
      replace h := ao_ifF h (by decide)
      replace h := ao_ifF h (by decide)
      replace h := ao_ifT h rfl
      refine ao_aload_n 0 dX12_remember_23 rfl rfl ?_
      refine ao_aload_n 0 dX12_remember_24 rfl rfl ?_
      obtain ⟨hk7, h⟩ := ao_some h
      obtain ⟨j8, hj8, h⟩ := ao_bind h
      refine an_getR r0 12 23 (q := (RX12, TX12, 83)) dX12_remember_25 rfl hk7 (Nat.le_of_ble_eq_true rfl) rfl lf_X12_142 hj8 ?_
      obtain ⟨p9, hp9, h⟩ := ao_bind h
      refine ba_callSr [.ref (Γ.2.2.2 + j8)] (aX12_longer (d - 1) (by omega) n j8 M ρ hp9) dX12_remember_28 lc_X12_138 lt_X12_longer rfl rfl (Nat.le_of_ble_eq_true rfl) (ao_hR (by omega) (by decide)) (ao_leC (me_X12_longer n j8 M ρ hp9) ((mX12_remember n).2.2.2.1 r0 x1 p9.1 r0 p9.2.1 p9.2.2 _ h)) (ao_leS (me_X12_longer n j8 M ρ hp9) ((mX12_remember n).2.2.2.1 r0 x1 p9.1 r0 p9.2.1 p9.2.2 _ h)) ?_
      exact ih.2.2.2.1 r0 x1 p9.1 r0 p9.2.1 p9.2.2 _ h
    · intro r0 x1 q0 q1 M ρ y h
      replace h := ao_ifF h (by decide)
      replace h := ao_ifF h (by decide)
      replace h := ao_ifF h (by decide)
      replace h := ao_ifT h rfl
      obtain ⟨hk10, h⟩ := ao_some h
      refine ba_putR q1 12 23 (q := (RX12, TX12, 83)) dX12_remember_31 rfl hk10 (Nat.le_of_ble_eq_true rfl) lf_X12_142 (Or.inl rfl) rfl rfl rfl ?_
      exact ih.2.2.2.2.1 r0 x1 M (ao_r ρ q1 23 (some q0)) _ h
    · intro r0 x1 M ρ y h
      replace h := ao_ifF h (by decide)
      replace h := ao_ifF h (by decide)
      replace h := ao_ifF h (by decide)
      replace h := ao_ifF h (by decide)
      replace h := ao_ifT h rfl
      refine ao_aload_n 0 dX12_remember_34 rfl rfl ?_
      refine ao_aload_n 0 dX12_remember_35 rfl rfl ?_
      obtain ⟨hk11, h⟩ := ao_some h
      obtain ⟨j12, hj12, h⟩ := ao_bind h
      refine an_getR r0 12 24 (q := (RX12, TX12, 83)) dX12_remember_36 rfl hk11 (Nat.le_of_ble_eq_true rfl) rfl lf_X12_145 hj12 ?_
      obtain ⟨p13, hp13, h⟩ := ao_bind h
      refine ba_callSr [.ref (Γ.2.2.2 + j12)] (aX12_longer (d - 1) (by omega) n j12 M ρ hp13) dX12_remember_39 lc_X12_138 lt_X12_longer rfl rfl (Nat.le_of_ble_eq_true rfl) (ao_hR (by omega) (by decide)) (ao_leC (me_X12_longer n j12 M ρ hp13) ((mX12_remember n).2.2.2.2.2.1 r0 x1 p13.1 r0 p13.2.1 p13.2.2 _ h)) (ao_leS (me_X12_longer n j12 M ρ hp13) ((mX12_remember n).2.2.2.2.2.1 r0 x1 p13.1 r0 p13.2.1 p13.2.2 _ h)) ?_
      exact ih.2.2.2.2.2.1 r0 x1 p13.1 r0 p13.2.1 p13.2.2 _ h
    · intro r0 x1 q0 q1 M ρ y h
      replace h := ao_ifF h (by decide)
      replace h := ao_ifF h (by decide)
      replace h := ao_ifF h (by decide)
      replace h := ao_ifF h (by decide)
      replace h := ao_ifF h (by decide)
      replace h := ao_ifT h rfl
      obtain ⟨hk14, h⟩ := ao_some h
      refine ba_putR q1 12 24 (q := (RX12, TX12, 83)) dX12_remember_42 rfl hk14 (Nat.le_of_ble_eq_true rfl) lf_X12_145 (Or.inl rfl) rfl rfl rfl ?_
      exact ih.2.2.2.2.2.2 r0 x1 M (ao_r ρ q1 24 (some q0)) _ h
    · intro r0 x1 M ρ y h
      replace h := ao_ifF h (by decide)
      replace h := ao_ifF h (by decide)
      replace h := ao_ifF h (by decide)
      replace h := ao_ifF h (by decide)
      replace h := ao_ifF h (by decide)
      replace h := ao_ifF h (by decide)
      replace h := ao_ifT h rfl
      refine ao_aload_n 0 dX12_remember_45 rfl rfl ?_
      obtain ⟨hk15, h⟩ := ao_some h
      obtain ⟨j16, hj16, h⟩ := ao_bind h
      refine an_getR r0 12 22 (q := (RX12, TX12, 83)) dX12_remember_46 rfl hk15 (Nat.le_of_ble_eq_true rfl) rfl lf_X12_135 hj16 ?_
      refine ao_aload_n 0 dX12_remember_49 rfl rfl ?_
      refine an_getI r0 12 25 (q := (RX12, TX12, 83)) dX12_remember_50 rfl hk15 (Nat.le_of_ble_eq_true rfl) rfl lf_X12_132 ?_
      refine ao_aload_n 0 dX12_remember_53 rfl rfl ?_
      refine an_getI r0 12 26 (q := (RX12, TX12, 83)) dX12_remember_54 rfl hk15 (Nat.le_of_ble_eq_true rfl) rfl lf_X12_148 ?_
      obtain ⟨hk17, h⟩ := ao_some h
      obtain ⟨hb18, h⟩ := ao_some h
      refine an_iastore j16 dX12_remember_57 hk17 hb18 (fun M19 hM19 => ?_)
      replace h := ao_letD h hM19
      refine ao_aload_n 0 dX12_remember_58 rfl rfl ?_
      obtain ⟨j20, hj20, h⟩ := ao_bind h
      refine an_getR r0 12 23 (q := (RX12, TX12, 83)) dX12_remember_59 rfl hk15 (Nat.le_of_ble_eq_true rfl) rfl lf_X12_142 hj20 ?_
      refine ao_aload_n 0 dX12_remember_62 rfl rfl ?_
      refine an_getI r0 12 25 (q := (RX12, TX12, 83)) dX12_remember_63 rfl hk15 (Nat.le_of_ble_eq_true rfl) rfl lf_X12_132 ?_
      refine ao_aload_n 0 dX12_remember_66 rfl rfl ?_
      obtain ⟨j21, hj21, h⟩ := ao_bind h
      refine an_getR r0 12 17 (q := (RX12, TX12, 83)) dX12_remember_67 rfl hk15 (Nat.le_of_ble_eq_true rfl) rfl lf_X12_151 hj21 ?_
      refine ao_iload_n 1 dX12_remember_70 rfl rfl ?_
      obtain ⟨hk22, h⟩ := ao_some h
      obtain ⟨hb23, h⟩ := ao_some h
      refine an_iaload j21 dX12_remember_71 hk22 hb23 ?_
      obtain ⟨hk24, h⟩ := ao_some h
      obtain ⟨hb25, h⟩ := ao_some h
      refine an_iastore j20 dX12_remember_72 hk24 hb25 (fun M26 hM26 => ?_)
      replace h := ao_letD h hM26
      refine ao_aload_n 0 dX12_remember_73 rfl rfl ?_
      obtain ⟨j27, hj27, h⟩ := ao_bind h
      refine an_getR r0 12 24 (q := (RX12, TX12, 83)) dX12_remember_74 rfl hk15 (Nat.le_of_ble_eq_true rfl) rfl lf_X12_145 hj27 ?_
      refine ao_aload_n 0 dX12_remember_77 rfl rfl ?_
      refine an_getI r0 12 25 (q := (RX12, TX12, 83)) dX12_remember_78 rfl hk15 (Nat.le_of_ble_eq_true rfl) rfl lf_X12_132 ?_
      refine ao_aload_n 0 dX12_remember_81 rfl rfl ?_
      obtain ⟨j28, hj28, h⟩ := ao_bind h
      refine an_getR r0 12 21 (q := (RX12, TX12, 83)) dX12_remember_82 rfl hk15 (Nat.le_of_ble_eq_true rfl) rfl lf_X12_154 hj28 ?_
      refine ao_iload_n 1 dX12_remember_85 rfl rfl ?_
      obtain ⟨hk29, h⟩ := ao_some h
      obtain ⟨hb30, h⟩ := ao_some h
      refine an_iaload j28 dX12_remember_86 hk29 hb30 ?_
      obtain ⟨hk31, h⟩ := ao_some h
      obtain ⟨hb32, h⟩ := ao_some h
      refine an_iastore j27 dX12_remember_87 hk31 hb32 (fun M33 hM33 => ?_)
      replace h := ao_letD h hM33
      refine ao_aload_n 0 dX12_remember_88 rfl rfl ?_
      refine an_getR r0 12 21 (q := (RX12, TX12, 83)) dX12_remember_89 rfl hk15 (Nat.le_of_ble_eq_true rfl) rfl lf_X12_154 hj28 ?_
      refine ao_iload_n 1 dX12_remember_92 rfl rfl ?_
      refine ao_aload_n 0 dX12_remember_93 rfl rfl ?_
      refine an_getI r0 12 25 (q := (RX12, TX12, 83)) dX12_remember_94 rfl hk15 (Nat.le_of_ble_eq_true rfl) rfl lf_X12_132 ?_
      refine an_iastore j28 dX12_remember_97 hk29 hb30 (fun M34 hM34 => ?_)
      replace h := ao_letD h hM34
      refine ao_aload_n 0 dX12_remember_98 rfl rfl ?_
      refine ao_dup dX12_remember_99 rfl ?_
      refine an_getI r0 12 25 (q := (RX12, TX12, 83)) dX12_remember_100 rfl hk15 (Nat.le_of_ble_eq_true rfl) rfl lf_X12_132 ?_
      refine ao_iconst (v := 1) dX12_remember_103 (by decide) ?_
      refine ao_iadd dX12_remember_104 ?_
      refine an_putI r0 12 25 (q := (RX12, TX12, 83)) dX12_remember_105 rfl hk15 (Nat.le_of_ble_eq_true rfl) lf_X12_132 rfl rfl rfl rfl (fun M35 hM35 => ?_)
      replace h := ao_letD h hM35
      refine ao_aload_n 0 dX12_remember_108 rfl rfl ?_
      obtain ⟨j36, hj36, h⟩ := ao_bind h
      refine an_getR r0 12 18 (q := (RX12, TX12, 83)) dX12_remember_109 rfl hk15 (Nat.le_of_ble_eq_true rfl) rfl lf_X12_157 hj36 ?_
      refine ao_iload_n 1 dX12_remember_112 rfl rfl ?_
      refine ao_aload_n 0 dX12_remember_113 rfl rfl ?_
      refine an_getI r0 12 26 (q := (RX12, TX12, 83)) dX12_remember_114 rfl hk15 (Nat.le_of_ble_eq_true rfl) rfl lf_X12_148 ?_
      obtain ⟨hk37, h⟩ := ao_some h
      obtain ⟨hb38, h⟩ := ao_some h
      refine an_iastore j36 dX12_remember_117 hk37 hb38 (fun M39 hM39 => ?_)
      replace h := ao_letD h hM39
      cases h
      exact ao_return dX12_remember_118 rfl ⟨rfl, rfl⟩
theorem me_X12_remember (n : Nat) (r0 : Nat) (x1 : Int32) (M : ao_M) (ρ : ao_H) {y : ao_S} (h : gX12_remember n r0 x1 M ρ = some y) : ao_le ρ y.2 := (mX12_remember n).1 r0 x1 M ρ y h
set_option maxRecDepth 100000 in
set_option maxHeartbeats 4000000 in
theorem aX12_remember {Γ : ao_C} (d : Nat) (hd : 1 ≤ d) (n : Nat) (r0 : Nat) (x1 : Int32) (M : ao_M) (ρ : ao_H) {y : ao_S} (h : gX12_remember n r0 x1 M ρ = some y) : ao_A Γ uX12_remember d (ao_dc ρ y.2) (ao_ds ρ y.2) [.ref (Γ.2.2.2 + r0), .int x1] (M, ρ) (ao_QV y) := by
  refine ao_of (by decide) (ao_cat1 (Nat.le_of_ble_eq_true rfl)) (Nat.le_of_ble_eq_true rfl) ?_
  show ao_W Γ uX12_remember (ao_rm d (ao_dc ρ y.2) (ao_ds ρ y.2)) (ao_Q Γ (ao_QV y) (ao_dc ρ y.2) (ao_ds ρ y.2)) (ao_dc ρ y.2) (ao_ds ρ y.2) 0 [some (.ref (Γ.2.2.2 + r0)), some (.int x1)] [] (M, ρ)
  exact (wX12_remember d hd _ _ n).1 r0 x1 M ρ y h

abbrev uX12_past : ao_Mi := (yX12_past, cX12_past, 4, (some .int), [])
def fX12_past : Nat → Nat → Nat → Int32 → Int32 → Int32 →  ao_M → ao_H → Option (Int32 × ao_M)
  | 0, _, _, _, _, _, _, _ => none
  | n + 1, pc, r0, x1, x2, x3, M, ρ =>
    if pc = 0 then
      if ρ.2.1 r0 = 22 then
      (ρ.1 r0 21).bind fun j2 =>
      if ρ.2.1 j2 = 0 then
      if ¬ (x1 < 0 ∨ ρ.2.2.1 j2 ≤ x1.toNatClampNeg) then
      ao_let (M j2 x1.toNatClampNeg) fun v5 =>
      fX12_past n 7 r0 x1 x2 v5 M ρ
      else none
      else none
      else none
    else if pc = 7 then
      if x3 < 0 then
        fX12_past n 31 r0 x1 x2 x3 M ρ
      else
        if ρ.2.1 r0 = 22 then
        (ρ.1 r0 22).bind fun j8 =>
        if ρ.2.1 j8 = 0 then
        if ¬ (x3 < 0 ∨ ρ.2.2.1 j8 ≤ x3.toNatClampNeg) then
        if (M j8 x3.toNatClampNeg) ≤ x2 then
          fX12_past n 31 r0 x1 x2 x3 M ρ
        else
          (ρ.1 r0 24).bind fun j12 =>
          if ρ.2.1 j12 = 0 then
          if ¬ (x3 < 0 ∨ ρ.2.2.1 j12 ≤ x3.toNatClampNeg) then
          ao_let (M j12 x3.toNatClampNeg) fun v15 =>
          fX12_past n 7 r0 x1 x2 v15 M ρ
          else none
          else none
        else none
        else none
        else none
    else if pc = 31 then
      if 0 ≤ x3 then
        if ρ.2.1 r0 = 22 then
        (ρ.1 r0 23).bind fun j18 =>
        if ρ.2.1 j18 = 0 then
        if ¬ (x3 < 0 ∨ ρ.2.2.1 j18 ≤ x3.toNatClampNeg) then
        some ((M j18 x3.toNatClampNeg), M)
        else none
        else none
        else none
      else
        some ((0 : Int32), M)
    else none
def gX12_past (n : Nat) (r0 : Nat) (x1 : Int32) (x2 : Int32) (M : ao_M) (ρ : ao_H) : Option (Int32 × ao_M) := fX12_past n 0 r0 x1 x2 0 M ρ
set_option maxRecDepth 100000 in
set_option maxHeartbeats 4000000 in
theorem wX12_past {Γ : ao_C} {ρ : ao_H} (d : Nat) (hd : 0 ≤ d) : ∀ n : Nat, (∀ (r0 : Nat) (x1 : Int32) (x2 : Int32) (M : ao_M) (y : Int32 × ao_M), fX12_past n 0 r0 x1 x2 0 M ρ = some y → ao_W Γ uX12_past (ao_rm d 0 0) (ao_Q Γ (ao_PI ρ y) 0 0) 0 0 0 [some (.ref (Γ.2.2.2 + r0)), some (.int x1), some (.int x2), none] [] (M, ρ)) ∧ (∀ (r0 : Nat) (x1 : Int32) (x2 : Int32) (x3 : Int32) (M : ao_M) (y : Int32 × ao_M), fX12_past n 7 r0 x1 x2 x3 M ρ = some y → ao_W Γ uX12_past (ao_rm d 0 0) (ao_Q Γ (ao_PI ρ y) 0 0) 0 0 7 [some (.ref (Γ.2.2.2 + r0)), some (.int x1), some (.int x2), some (.int x3)] [] (M, ρ)) ∧ (∀ (r0 : Nat) (x1 : Int32) (x2 : Int32) (x3 : Int32) (M : ao_M) (y : Int32 × ao_M), fX12_past n 31 r0 x1 x2 x3 M ρ = some y → ao_W Γ uX12_past (ao_rm d 0 0) (ao_Q Γ (ao_PI ρ y) 0 0) 0 0 31 [some (.ref (Γ.2.2.2 + r0)), some (.int x1), some (.int x2), some (.int x3)] [] (M, ρ)) := by
  intro n
  induction n with
  | zero => exact ⟨fun _ _ _ _ _ h => ao_no h, fun _ _ _ _ _ _ h => ao_no h, fun _ _ _ _ _ _ h => ao_no h⟩
  | succ n ih =>
    refine ⟨?_, ?_, ?_⟩
    · intro r0 x1 x2 M y h
      replace h := ao_ifT h rfl
      refine ao_aload_n 0 dX12_past_0 rfl rfl ?_
      obtain ⟨hk1, h⟩ := ao_some h
      obtain ⟨j2, hj2, h⟩ := ao_bind h
      refine an_getR r0 12 21 (q := (RX12, TX12, 83)) dX12_past_1 rfl hk1 (Nat.le_of_ble_eq_true rfl) rfl lf_X12_154 hj2 ?_
      refine ao_iload_n 1 dX12_past_4 rfl rfl ?_
      obtain ⟨hk3, h⟩ := ao_some h
      obtain ⟨hb4, h⟩ := ao_some h
      refine an_iaload j2 dX12_past_5 hk3 hb4 ?_
      refine an_topi (fun v5 hv5 => ?_)
      replace h := ao_letD h hv5
      refine ao_istore_n 3 (lo' := [some (.ref (Γ.2.2.2 + r0)), some (.int x1), some (.int x2), some (.int v5)]) dX12_past_6 rfl (Nat.le_of_ble_eq_true rfl) rfl ?_
      exact ih.2.1 r0 x1 x2 v5 M _ h
    · intro r0 x1 x2 x3 M y h
      replace h := ao_ifF h (by decide)
      replace h := ao_ifT h rfl
      refine ao_iload_n 3 dX12_past_7 rfl rfl ?_
      refine ao_if_lt 31 dX12_past_8 (by decide) (fun c6 => ?_) (fun c6 => ?_)
      · replace h := ao_ifT h c6
        exact ih.2.2 r0 x1 x2 x3 M _ h
      · replace h := ao_ifF h c6
        refine ao_aload_n 0 dX12_past_11 rfl rfl ?_
        obtain ⟨hk7, h⟩ := ao_some h
        obtain ⟨j8, hj8, h⟩ := ao_bind h
        refine an_getR r0 12 22 (q := (RX12, TX12, 83)) dX12_past_12 rfl hk7 (Nat.le_of_ble_eq_true rfl) rfl lf_X12_135 hj8 ?_
        refine ao_iload_n 3 dX12_past_15 rfl rfl ?_
        obtain ⟨hk9, h⟩ := ao_some h
        obtain ⟨hb10, h⟩ := ao_some h
        refine an_iaload j8 dX12_past_16 hk9 hb10 ?_
        refine ao_iload_n 2 dX12_past_17 rfl rfl ?_
        refine ao_icmp_le 31 dX12_past_18 (by decide) (fun c11 => ?_) (fun c11 => ?_)
        · replace h := ao_ifT h c11
          exact ih.2.2 r0 x1 x2 x3 M _ h
        · replace h := ao_ifF h c11
          refine ao_aload_n 0 dX12_past_21 rfl rfl ?_
          obtain ⟨j12, hj12, h⟩ := ao_bind h
          refine an_getR r0 12 24 (q := (RX12, TX12, 83)) dX12_past_22 rfl hk7 (Nat.le_of_ble_eq_true rfl) rfl lf_X12_145 hj12 ?_
          refine ao_iload_n 3 dX12_past_25 rfl rfl ?_
          obtain ⟨hk13, h⟩ := ao_some h
          obtain ⟨hb14, h⟩ := ao_some h
          refine an_iaload j12 dX12_past_26 hk13 hb14 ?_
          refine an_topi (fun v15 hv15 => ?_)
          replace h := ao_letD h hv15
          refine ao_istore_n 3 (lo' := [some (.ref (Γ.2.2.2 + r0)), some (.int x1), some (.int x2), some (.int v15)]) dX12_past_27 rfl (Nat.le_of_ble_eq_true rfl) rfl ?_
          refine ao_goto 7 dX12_past_28 (by decide) ?_
          exact ih.2.1 r0 x1 x2 v15 M _ h
    · intro r0 x1 x2 x3 M y h
      replace h := ao_ifF h (by decide)
      replace h := ao_ifF h (by decide)
      replace h := ao_ifT h rfl
      refine ao_iload_n 3 dX12_past_31 rfl rfl ?_
      refine ao_if_ge 39 dX12_past_32 (by decide) (fun c16 => ?_) (fun c16 => ?_)
      · replace h := ao_ifT h c16
        refine ao_aload_n 0 dX12_past_39 rfl rfl ?_
        obtain ⟨hk17, h⟩ := ao_some h
        obtain ⟨j18, hj18, h⟩ := ao_bind h
        refine an_getR r0 12 23 (q := (RX12, TX12, 83)) dX12_past_40 rfl hk17 (Nat.le_of_ble_eq_true rfl) rfl lf_X12_142 hj18 ?_
        refine ao_iload_n 3 dX12_past_43 rfl rfl ?_
        obtain ⟨hk19, h⟩ := ao_some h
        obtain ⟨hb20, h⟩ := ao_some h
        refine an_iaload j18 dX12_past_44 hk19 hb20 ?_
        cases h
        exact ao_ireturn dX12_past_45 rfl rfl ⟨rfl, rfl⟩
      · replace h := ao_ifF h c16
        refine ao_iconst (v := 0) dX12_past_35 (by decide) ?_
        refine ao_goto 45 dX12_past_36 (by decide) ?_
        cases h
        exact ao_ireturn dX12_past_45 rfl rfl ⟨rfl, rfl⟩
set_option maxRecDepth 100000 in
set_option maxHeartbeats 4000000 in
theorem aX12_past {Γ : ao_C} (d : Nat) (hd : 0 ≤ d) (n : Nat) (r0 : Nat) (x1 : Int32) (x2 : Int32) (M : ao_M) (ρ : ao_H) {y : Int32 × ao_M} (h : gX12_past n r0 x1 x2 M ρ = some y) : ao_A Γ uX12_past d 0 0 [.ref (Γ.2.2.2 + r0), .int x1, .int x2] (M, ρ) (ao_PI ρ y) := by
  refine ao_of (by decide) (ao_cat1 (Nat.le_of_ble_eq_true rfl)) (Nat.le_of_ble_eq_true rfl) ?_
  show ao_W Γ uX12_past (ao_rm d 0 0) (ao_Q Γ (ao_PI ρ y) 0 0) 0 0 0 [some (.ref (Γ.2.2.2 + r0)), some (.int x1), some (.int x2), none] [] (M, ρ)
  exact (wX12_past d hd n).1 r0 x1 x2 M y h

abbrev uX12_change : ao_Mi := (yX12_change, cX12_change, 3, none, [])
def fX12_change : Nat → Nat → Nat → Int32 → Int32 →  ao_M → ao_H → Option (ao_S)
  | 0, _, _, _, _, _, _ => none
  | n + 1, pc, r0, x1, x2, M, ρ =>
    if pc = 0 then
      if ρ.2.1 r0 = 22 then
      ao_let (ao_u M r0 26 ((M r0 26) + (1 : Int32))) fun M2 =>
      (ρ.1 r0 17).bind fun j3 =>
      if ρ.2.1 j3 = 0 then
      if ¬ (x1 < 0 ∨ ρ.2.2.1 j3 ≤ x1.toNatClampNeg) then
      ao_let (ao_u M2 j3 x1.toNatClampNeg x2) fun M6 =>
      (gX12_remember n r0 x1 M6 ρ).bind fun p7 =>
      fX12_change n 22 r0 x1 x2 p7.1 p7.2
      else none
      else none
      else none
    else if pc = 22 then
      some (M, ρ)
    else none
def gX12_change (n : Nat) (r0 : Nat) (x1 : Int32) (x2 : Int32) (M : ao_M) (ρ : ao_H) : Option (ao_S) := fX12_change n 0 r0 x1 x2 M ρ
set_option maxRecDepth 100000 in
set_option maxHeartbeats 4000000 in
theorem mX12_change : ∀ n : Nat, (∀ (r0 : Nat) (x1 : Int32) (x2 : Int32) (M : ao_M) (ρ : ao_H) (y : ao_S), fX12_change n 0 r0 x1 x2 M ρ = some y → ao_le ρ y.2) ∧ (∀ (r0 : Nat) (x1 : Int32) (x2 : Int32) (M : ao_M) (ρ : ao_H) (y : ao_S), fX12_change n 22 r0 x1 x2 M ρ = some y → ao_le ρ y.2) := by
  intro n
  induction n with
  | zero => exact ⟨fun _ _ _ _ _ _ h => ao_no h, fun _ _ _ _ _ _ h => ao_no h⟩
  | succ n ih =>
    refine ⟨?_, ?_⟩
    · intro r0 x1 x2 M ρ y h
      replace h := ao_ifT h rfl
      obtain ⟨-, h⟩ := ao_some h
      replace h := ao_letD h rfl
      generalize (ao_u M r0 26 ((M r0 26) + (1 : Int32))) = M2 at h
      obtain ⟨j3, hj3, h⟩ := ao_bind h
      obtain ⟨-, h⟩ := ao_some h
      obtain ⟨-, h⟩ := ao_some h
      replace h := ao_letD h rfl
      generalize (ao_u M2 j3 x1.toNatClampNeg x2) = M6 at h
      obtain ⟨p7, hp7, h⟩ := ao_bind h
      exact ao_le_tr (me_X12_remember n r0 x1 M6 ρ hp7) (ih.2 r0 x1 x2 p7.1 p7.2 _ h)
    · intro r0 x1 x2 M ρ y h
      replace h := ao_ifF h (by decide)
      replace h := ao_ifT h rfl
      cases h
      exact ao_le_rf _
set_option maxRecDepth 100000 in
set_option maxHeartbeats 4000000 in
theorem wX12_change {Γ : ao_C} (d : Nat) (hd : 2 ≤ d) (MC MS : Nat) : ∀ n : Nat, (∀ (r0 : Nat) (x1 : Int32) (x2 : Int32) (M : ao_M) (ρ : ao_H) (y : ao_S), fX12_change n 0 r0 x1 x2 M ρ = some y → ao_W Γ uX12_change (ao_rm d MC MS) (ao_Q Γ (ao_QV y) MC MS) (ao_dc ρ y.2) (ao_ds ρ y.2) 0 [some (.ref (Γ.2.2.2 + r0)), some (.int x1), some (.int x2)] [] (M, ρ)) ∧ (∀ (r0 : Nat) (x1 : Int32) (x2 : Int32) (M : ao_M) (ρ : ao_H) (y : ao_S), fX12_change n 22 r0 x1 x2 M ρ = some y → ao_W Γ uX12_change (ao_rm d MC MS) (ao_Q Γ (ao_QV y) MC MS) (ao_dc ρ y.2) (ao_ds ρ y.2) 22 [some (.ref (Γ.2.2.2 + r0)), some (.int x1), some (.int x2)] [] (M, ρ)) := by
  intro n
  induction n with
  | zero => exact ⟨fun _ _ _ _ _ _ h => ao_no h, fun _ _ _ _ _ _ h => ao_no h⟩
  | succ n ih =>
    refine ⟨?_, ?_⟩
    · intro r0 x1 x2 M ρ y h
      replace h := ao_ifT h rfl
      refine ao_aload_n 0 dX12_change_0 rfl rfl ?_
      refine ao_dup dX12_change_1 rfl ?_
      obtain ⟨hk1, h⟩ := ao_some h
      refine an_getI r0 12 26 (q := (RX12, TX12, 83)) dX12_change_2 rfl hk1 (Nat.le_of_ble_eq_true rfl) rfl lf_X12_148 ?_
      refine ao_iconst (v := 1) dX12_change_5 (by decide) ?_
      refine ao_iadd dX12_change_6 ?_
      refine an_putI r0 12 26 (q := (RX12, TX12, 83)) dX12_change_7 rfl hk1 (Nat.le_of_ble_eq_true rfl) lf_X12_148 rfl rfl rfl rfl (fun M2 hM2 => ?_)
      replace h := ao_letD h hM2
      refine ao_aload_n 0 dX12_change_10 rfl rfl ?_
      obtain ⟨j3, hj3, h⟩ := ao_bind h
      refine an_getR r0 12 17 (q := (RX12, TX12, 83)) dX12_change_11 rfl hk1 (Nat.le_of_ble_eq_true rfl) rfl lf_X12_151 hj3 ?_
      refine ao_iload_n 1 dX12_change_14 rfl rfl ?_
      refine ao_iload_n 2 dX12_change_15 rfl rfl ?_
      obtain ⟨hk4, h⟩ := ao_some h
      obtain ⟨hb5, h⟩ := ao_some h
      refine an_iastore j3 dX12_change_16 hk4 hb5 (fun M6 hM6 => ?_)
      replace h := ao_letD h hM6
      refine ao_aload_n 0 dX12_change_17 rfl rfl ?_
      refine ao_iload_n 1 dX12_change_18 rfl rfl ?_
      obtain ⟨p7, hp7, h⟩ := ao_bind h
      refine ba_callVv r0 12 (q := (RX12, TX12, 83)) [.int x1] (aX12_remember (d - 1) (by omega) n r0 x1 M6 ρ hp7) dX12_change_19 lc_X12_160 li_X12_remember ls_X12_remember rfl hk1 rfl rfl (Nat.le_of_ble_eq_true rfl) (ao_hR (by omega) (by decide)) (ao_leC (me_X12_remember n r0 x1 M6 ρ hp7) ((mX12_change n).2 r0 x1 x2 p7.1 p7.2 _ h)) (ao_leS (me_X12_remember n r0 x1 M6 ρ hp7) ((mX12_change n).2 r0 x1 x2 p7.1 p7.2 _ h)) ?_
      exact ih.2 r0 x1 x2 p7.1 p7.2 _ h
    · intro r0 x1 x2 M ρ y h
      replace h := ao_ifF h (by decide)
      replace h := ao_ifT h rfl
      cases h
      exact ao_return dX12_change_22 rfl ⟨rfl, rfl⟩
theorem me_X12_change (n : Nat) (r0 : Nat) (x1 : Int32) (x2 : Int32) (M : ao_M) (ρ : ao_H) {y : ao_S} (h : gX12_change n r0 x1 x2 M ρ = some y) : ao_le ρ y.2 := (mX12_change n).1 r0 x1 x2 M ρ y h
set_option maxRecDepth 100000 in
set_option maxHeartbeats 4000000 in
theorem aX12_change {Γ : ao_C} (d : Nat) (hd : 2 ≤ d) (n : Nat) (r0 : Nat) (x1 : Int32) (x2 : Int32) (M : ao_M) (ρ : ao_H) {y : ao_S} (h : gX12_change n r0 x1 x2 M ρ = some y) : ao_A Γ uX12_change d (ao_dc ρ y.2) (ao_ds ρ y.2) [.ref (Γ.2.2.2 + r0), .int x1, .int x2] (M, ρ) (ao_QV y) := by
  refine ao_of (by decide) (ao_cat1 (Nat.le_of_ble_eq_true rfl)) (Nat.le_of_ble_eq_true rfl) ?_
  show ao_W Γ uX12_change (ao_rm d (ao_dc ρ y.2) (ao_ds ρ y.2)) (ao_Q Γ (ao_QV y) (ao_dc ρ y.2) (ao_ds ρ y.2)) (ao_dc ρ y.2) (ao_ds ρ y.2) 0 [some (.ref (Γ.2.2.2 + r0)), some (.int x1), some (.int x2)] [] (M, ρ)
  exact (wX12_change d hd _ _ n).1 r0 x1 x2 M ρ y h

abbrev uX12_level : ao_Mi := (yX12_level, cX12_level, 3, (some .int), [])
def gX12_level (r0 : Nat) (x1 : Int32) (x2 : Int32) (M : ao_M) (ρ : ao_H) : Option (Int32 × ao_M) :=
  some (((x1 * (12 : Int32)) + x2), M)
set_option maxRecDepth 100000 in
set_option maxHeartbeats 4000000 in
theorem aX12_level {Γ : ao_C} (d : Nat) (hd : 0 ≤ d) (r0 : Nat) (x1 : Int32) (x2 : Int32) (M : ao_M) (ρ : ao_H) {y : Int32 × ao_M} (h : gX12_level r0 x1 x2 M ρ = some y) : ao_A Γ uX12_level d 0 0 [.ref (Γ.2.2.2 + r0), .int x1, .int x2] (M, ρ) (ao_PI ρ y) := by
  refine ao_of (by decide) (ao_cat1 (Nat.le_of_ble_eq_true rfl)) (Nat.le_of_ble_eq_true rfl) ?_
  show ao_W Γ uX12_level (ao_rm d 0 0) (ao_Q Γ (ao_PI ρ y) 0 0) 0 0 0 [some (.ref (Γ.2.2.2 + r0)), some (.int x1), some (.int x2)] [] (M, ρ)
  unfold gX12_level at h
  refine ao_iload_n 1 dX12_level_0 rfl rfl ?_
  refine ao_bipush (v := 12) dX12_level_1 (by decide) ?_
  refine ao_imul dX12_level_3 ?_
  refine ao_iload_n 2 dX12_level_4 rfl rfl ?_
  refine ao_iadd dX12_level_5 ?_
  cases h
  exact ao_ireturn dX12_level_6 rfl rfl ⟨rfl, rfl⟩

abbrev uX12_cell : ao_Mi := (yX12_cell, cX12_cell, 4, (some .int), [])
def gX12_cell (r0 : Nat) (x1 : Int32) (x2 : Int32) (x3 : Int32) (M : ao_M) (ρ : ao_H) : Option (Int32 × ao_M) :=
  some (((((x1 * (12 : Int32)) + x2) * (26 : Int32)) + x3), M)
set_option maxRecDepth 100000 in
set_option maxHeartbeats 4000000 in
theorem aX12_cell {Γ : ao_C} (d : Nat) (hd : 0 ≤ d) (r0 : Nat) (x1 : Int32) (x2 : Int32) (x3 : Int32) (M : ao_M) (ρ : ao_H) {y : Int32 × ao_M} (h : gX12_cell r0 x1 x2 x3 M ρ = some y) : ao_A Γ uX12_cell d 0 0 [.ref (Γ.2.2.2 + r0), .int x1, .int x2, .int x3] (M, ρ) (ao_PI ρ y) := by
  refine ao_of (by decide) (ao_cat1 (Nat.le_of_ble_eq_true rfl)) (Nat.le_of_ble_eq_true rfl) ?_
  show ao_W Γ uX12_cell (ao_rm d 0 0) (ao_Q Γ (ao_PI ρ y) 0 0) 0 0 0 [some (.ref (Γ.2.2.2 + r0)), some (.int x1), some (.int x2), some (.int x3)] [] (M, ρ)
  unfold gX12_cell at h
  refine ao_iload_n 1 dX12_cell_0 rfl rfl ?_
  refine ao_bipush (v := 12) dX12_cell_1 (by decide) ?_
  refine ao_imul dX12_cell_3 ?_
  refine ao_iload_n 2 dX12_cell_4 rfl rfl ?_
  refine ao_iadd dX12_cell_5 ?_
  refine ao_bipush (v := 26) dX12_cell_6 (by decide) ?_
  refine ao_imul dX12_cell_8 ?_
  refine ao_iload_n 3 dX12_cell_9 rfl rfl ?_
  refine ao_iadd dX12_cell_10 ?_
  cases h
  exact ao_ireturn dX12_cell_11 rfl rfl ⟨rfl, rfl⟩

abbrev uX12_clearLevel : ao_Mi := (yX12_clearLevel, cX12_clearLevel, 4, none, [])
def fX12_clearLevel : Nat → Nat → Nat → Int32 → Int32 → Int32 →  ao_M → ao_H → Option (ao_M)
  | 0, _, _, _, _, _, _, _ => none
  | n + 1, pc, r0, x1, x2, x3, M, ρ =>
    if pc = 0 then
      fX12_clearLevel n 2 r0 x1 x2 (0 : Int32) M ρ
    else if pc = 2 then
      if (26 : Int32) ≤ x3 then
        if ρ.2.1 r0 = 22 then
        (ρ.1 r0 62).bind fun j3 =>
        (gX12_level r0 x1 x2 M ρ).bind fun p4 =>
        if ρ.2.1 j3 = 0 then
        if ¬ (p4.1 < 0 ∨ ρ.2.2.1 j3 ≤ p4.1.toNatClampNeg) then
        ao_let (ao_u p4.2 j3 p4.1.toNatClampNeg (0 : Int32)) fun M7 =>
        some M7
        else none
        else none
        else none
      else
        if ρ.2.1 r0 = 22 then
        (ρ.1 r0 55).bind fun j9 =>
        (gX12_cell r0 x1 x2 x3 M ρ).bind fun p10 =>
        if ρ.2.1 j9 = 2 then
        if ¬ (p10.1 < 0 ∨ ρ.2.2.1 j9 ≤ p10.1.toNatClampNeg) then
        ao_let (ao_u p10.2 j9 p10.1.toNatClampNeg (0 : Int32)) fun M13 =>
        (ρ.1 r0 56).bind fun j14 =>
        (gX12_cell r0 x1 x2 x3 M13 ρ).bind fun p15 =>
        if ρ.2.1 j14 = 2 then
        if ¬ (p15.1 < 0 ∨ ρ.2.2.1 j14 ≤ p15.1.toNatClampNeg) then
        ao_let (ao_u p15.2 j14 p15.1.toNatClampNeg (0 : Int32)) fun M18 =>
        ao_let (x3 + (1 : Int32)) fun v19 =>
        fX12_clearLevel n 2 r0 x1 x2 v19 M18 ρ
        else none
        else none
        else none
        else none
        else none
    else none
def gX12_clearLevel (n : Nat) (r0 : Nat) (x1 : Int32) (x2 : Int32) (M : ao_M) (ρ : ao_H) : Option (ao_M) := fX12_clearLevel n 0 r0 x1 x2 0 M ρ
set_option maxRecDepth 100000 in
set_option maxHeartbeats 4000000 in
theorem wX12_clearLevel {Γ : ao_C} {ρ : ao_H} (d : Nat) (hd : 1 ≤ d) : ∀ n : Nat, (∀ (r0 : Nat) (x1 : Int32) (x2 : Int32) (M : ao_M) (y : ao_M), fX12_clearLevel n 0 r0 x1 x2 0 M ρ = some y → ao_W Γ uX12_clearLevel (ao_rm d 0 0) (ao_Q Γ (ao_PV ρ y) 0 0) 0 0 0 [some (.ref (Γ.2.2.2 + r0)), some (.int x1), some (.int x2), none] [] (M, ρ)) ∧ (∀ (r0 : Nat) (x1 : Int32) (x2 : Int32) (x3 : Int32) (M : ao_M) (y : ao_M), fX12_clearLevel n 2 r0 x1 x2 x3 M ρ = some y → ao_W Γ uX12_clearLevel (ao_rm d 0 0) (ao_Q Γ (ao_PV ρ y) 0 0) 0 0 2 [some (.ref (Γ.2.2.2 + r0)), some (.int x1), some (.int x2), some (.int x3)] [] (M, ρ)) := by
  intro n
  induction n with
  | zero => exact ⟨fun _ _ _ _ _ h => ao_no h, fun _ _ _ _ _ _ h => ao_no h⟩
  | succ n ih =>
    refine ⟨?_, ?_⟩
    · intro r0 x1 x2 M y h
      replace h := ao_ifT h rfl
      refine ao_iconst (v := 0) dX12_clearLevel_0 (by decide) ?_
      refine ao_istore_n 3 (lo' := [some (.ref (Γ.2.2.2 + r0)), some (.int x1), some (.int x2), some (.int (0 : Int32))]) dX12_clearLevel_1 rfl (Nat.le_of_ble_eq_true rfl) rfl ?_
      exact ih.2 r0 x1 x2 (0 : Int32) M _ h
    · intro r0 x1 x2 x3 M y h
      replace h := ao_ifF h (by decide)
      replace h := ao_ifT h rfl
      refine ao_iload_n 3 dX12_clearLevel_2 rfl rfl ?_
      refine ao_bipush (v := 26) dX12_clearLevel_3 (by decide) ?_
      refine ao_icmp_ge 40 dX12_clearLevel_5 (by decide) (fun c1 => ?_) (fun c1 => ?_)
      · replace h := ao_ifT h c1
        refine ao_aload_n 0 dX12_clearLevel_40 rfl rfl ?_
        obtain ⟨hk2, h⟩ := ao_some h
        obtain ⟨j3, hj3, h⟩ := ao_bind h
        refine an_getR r0 12 62 (q := (RX12, TX12, 83)) dX12_clearLevel_41 rfl hk2 (Nat.le_of_ble_eq_true rfl) rfl lf_X12_287 hj3 ?_
        refine ao_aload_n 0 dX12_clearLevel_44 rfl rfl ?_
        refine ao_iload_n 1 dX12_clearLevel_45 rfl rfl ?_
        refine ao_iload_n 2 dX12_clearLevel_46 rfl rfl ?_
        obtain ⟨p4, hp4, h⟩ := ao_bind h
        refine an_callVi r0 12 (q := (RX12, TX12, 83)) [.int x1, .int x2] (aX12_level (d - 1) (by omega) r0 x1 x2 M ρ hp4) dX12_clearLevel_47 lc_X12_360 li_X12_level ls_X12_level rfl hk2 rfl rfl (Nat.le_of_ble_eq_true rfl) (ao_hR (by omega) (by decide)) ?_
        refine ao_iconst (v := 0) dX12_clearLevel_50 (by decide) ?_
        obtain ⟨hk5, h⟩ := ao_some h
        obtain ⟨hb6, h⟩ := ao_some h
        refine an_iastore j3 dX12_clearLevel_51 hk5 hb6 (fun M7 hM7 => ?_)
        replace h := ao_letD h hM7
        cases h
        exact ao_return dX12_clearLevel_52 rfl ⟨rfl, rfl⟩
      · replace h := ao_ifF h c1
        refine ao_aload_n 0 dX12_clearLevel_8 rfl rfl ?_
        obtain ⟨hk8, h⟩ := ao_some h
        obtain ⟨j9, hj9, h⟩ := ao_bind h
        refine an_getR r0 12 55 (q := (RX12, TX12, 83)) dX12_clearLevel_9 rfl hk8 (Nat.le_of_ble_eq_true rfl) rfl lf_X12_266 hj9 ?_
        refine ao_aload_n 0 dX12_clearLevel_12 rfl rfl ?_
        refine ao_iload_n 1 dX12_clearLevel_13 rfl rfl ?_
        refine ao_iload_n 2 dX12_clearLevel_14 rfl rfl ?_
        refine ao_iload_n 3 dX12_clearLevel_15 rfl rfl ?_
        obtain ⟨p10, hp10, h⟩ := ao_bind h
        refine an_callVi r0 12 (q := (RX12, TX12, 83)) [.int x1, .int x2, .int x3] (aX12_cell (d - 1) (by omega) r0 x1 x2 x3 M ρ hp10) dX12_clearLevel_16 lc_X12_357 li_X12_cell ls_X12_cell rfl hk8 rfl rfl (Nat.le_of_ble_eq_true rfl) (ao_hR (by omega) (by decide)) ?_
        refine ao_iconst (v := 0) dX12_clearLevel_19 (by decide) ?_
        obtain ⟨hk11, h⟩ := ao_some h
        obtain ⟨hb12, h⟩ := ao_some h
        refine an_zastore j9 dX12_clearLevel_20 hk11 hb12 rfl (fun M13 hM13 => ?_)
        replace h := ao_letD h hM13
        refine ao_aload_n 0 dX12_clearLevel_21 rfl rfl ?_
        obtain ⟨j14, hj14, h⟩ := ao_bind h
        refine an_getR r0 12 56 (q := (RX12, TX12, 83)) dX12_clearLevel_22 rfl hk8 (Nat.le_of_ble_eq_true rfl) rfl lf_X12_269 hj14 ?_
        refine ao_aload_n 0 dX12_clearLevel_25 rfl rfl ?_
        refine ao_iload_n 1 dX12_clearLevel_26 rfl rfl ?_
        refine ao_iload_n 2 dX12_clearLevel_27 rfl rfl ?_
        refine ao_iload_n 3 dX12_clearLevel_28 rfl rfl ?_
        obtain ⟨p15, hp15, h⟩ := ao_bind h
        refine an_callVi r0 12 (q := (RX12, TX12, 83)) [.int x1, .int x2, .int x3] (aX12_cell (d - 1) (by omega) r0 x1 x2 x3 M13 ρ hp15) dX12_clearLevel_29 lc_X12_357 li_X12_cell ls_X12_cell rfl hk8 rfl rfl (Nat.le_of_ble_eq_true rfl) (ao_hR (by omega) (by decide)) ?_
        refine ao_iconst (v := 0) dX12_clearLevel_32 (by decide) ?_
        obtain ⟨hk16, h⟩ := ao_some h
        obtain ⟨hb17, h⟩ := ao_some h
        refine an_zastore j14 dX12_clearLevel_33 hk16 hb17 rfl (fun M18 hM18 => ?_)
        replace h := ao_letD h hM18
        obtain ⟨v19, hv19⟩ : ∃ z : Int32, z = x3 + (1 : Int32) := ⟨_, rfl⟩
        replace h := ao_letD h hv19
        refine ao_iinc 3 (v := v19) (lo' := [some (.ref (Γ.2.2.2 + r0)), some (.int x1), some (.int x2), some (.int v19)]) dX12_clearLevel_34 rfl (by rw [hv19]; rfl) (Nat.le_of_ble_eq_true rfl) rfl ?_
        refine ao_goto 2 dX12_clearLevel_37 (by decide) ?_
        exact ih.2 r0 x1 x2 v19 M18 _ h
set_option maxRecDepth 100000 in
set_option maxHeartbeats 4000000 in
theorem aX12_clearLevel {Γ : ao_C} (d : Nat) (hd : 1 ≤ d) (n : Nat) (r0 : Nat) (x1 : Int32) (x2 : Int32) (M : ao_M) (ρ : ao_H) {y : ao_M} (h : gX12_clearLevel n r0 x1 x2 M ρ = some y) : ao_A Γ uX12_clearLevel d 0 0 [.ref (Γ.2.2.2 + r0), .int x1, .int x2] (M, ρ) (ao_PV ρ y) := by
  refine ao_of (by decide) (ao_cat1 (Nat.le_of_ble_eq_true rfl)) (Nat.le_of_ble_eq_true rfl) ?_
  show ao_W Γ uX12_clearLevel (ao_rm d 0 0) (ao_Q Γ (ao_PV ρ y) 0 0) 0 0 0 [some (.ref (Γ.2.2.2 + r0)), some (.int x1), some (.int x2), none] [] (M, ρ)
  exact (wX12_clearLevel d hd n).1 r0 x1 x2 M y h
