abbrev uJ7_copyOf_59c91 : ao_Mi := (yJ7_copyOf_59c91, cJ7_copyOf_59c91, 3, (some (.array .int)), [])
def fJ7_copyOf_59c91 : Nat → Nat → Nat → Int32 → Nat →  ao_M → ao_H → Option (Nat × ao_S)
  | 0, _, _, _, _, _, _ => none
  | n + 1, pc, r0, x1, q0, M, ρ =>
    if pc = 0 then
      if ρ.2.1 r0 = 0 then
      if x1 = (nI (ρ.2.2.1 r0)) then
        none
      else
        (ρ.2.2.2.1).bind fun n3 =>
        if ¬ x1 < 0 ∧ x1.toNatClampNeg * 8 ≤ 536870912 then
        fJ7_copyOf_59c91 n 17 r0 x1 n3 (ao_zr M n3) (ao_nw ρ n3 0 x1.toNatClampNeg x1.toNatClampNeg)
        else none
      else none
    else if pc = 17 then
      if ρ.2.1 r0 = 0 then
      if ρ.2.1 q0 = 0 then
      if ¬ (0 : Int32) < 0 ∧ ¬ (0 : Int32) < 0 ∧ ¬ (if x1 < (nI (ρ.2.2.1 r0)) then x1 else (nI (ρ.2.2.1 r0))) < 0 ∧ (0 : Int32).toNatClampNeg + (if x1 < (nI (ρ.2.2.1 r0)) then x1 else (nI (ρ.2.2.1 r0))).toNatClampNeg ≤ ρ.2.2.1 r0 ∧ (0 : Int32).toNatClampNeg + (if x1 < (nI (ρ.2.2.1 r0)) then x1 else (nI (ρ.2.2.1 r0))).toNatClampNeg ≤ ρ.2.2.1 q0 then
      ao_let (ao_cp M r0 q0 (0 : Int32).toNatClampNeg (0 : Int32).toNatClampNeg (if x1 < (nI (ρ.2.2.1 r0)) then x1 else (nI (ρ.2.2.1 r0))).toNatClampNeg) fun M8 =>
      some (q0, M8, ρ)
      else none
      else none
      else none
    else none
def gJ7_copyOf_59c91 (n : Nat) (r0 : Nat) (x1 : Int32) (M : ao_M) (ρ : ao_H) : Option (Nat × ao_S) := fJ7_copyOf_59c91 n 0 r0 x1 0 M ρ
set_option maxRecDepth 100000 in
set_option maxHeartbeats 4000000 in
theorem mJ7_copyOf_59c91 : ∀ n : Nat, (∀ (r0 : Nat) (x1 : Int32) (M : ao_M) (ρ : ao_H) (y : Nat × ao_S), fJ7_copyOf_59c91 n 0 r0 x1 0 M ρ = some y → ao_le ρ y.2.2) ∧ (∀ (r0 : Nat) (x1 : Int32) (q0 : Nat) (M : ao_M) (ρ : ao_H) (y : Nat × ao_S), fJ7_copyOf_59c91 n 17 r0 x1 q0 M ρ = some y → ao_le ρ y.2.2) := by
  intro n
  induction n with
  | zero => exact ⟨fun _ _ _ _ _ h => ao_no h, fun _ _ _ _ _ _ h => ao_no h⟩
  | succ n ih =>
    refine ⟨?_, ?_⟩
    · intro r0 x1 M ρ y h
      replace h := ao_ifT h rfl
      obtain ⟨-, h⟩ := ao_some h
      rcases ao_ifC h with h | h
      · exact ao_no h
      · obtain ⟨n3, hn3, h⟩ := ao_bind h
        obtain ⟨-, h⟩ := ao_some h
        exact ao_le_tr (ao_le_nw _ _ _ _ _) (ih.2 r0 x1 n3 (ao_zr M n3) (ao_nw ρ n3 0 x1.toNatClampNeg x1.toNatClampNeg) _ h)
    · intro r0 x1 q0 M ρ y h
      replace h := ao_ifF h (by decide)
      replace h := ao_ifT h rfl
      obtain ⟨-, h⟩ := ao_some h
      obtain ⟨-, h⟩ := ao_some h
      obtain ⟨-, h⟩ := ao_some h
      replace h := ao_letD h rfl
      generalize (ao_cp M r0 q0 (0 : Int32).toNatClampNeg (0 : Int32).toNatClampNeg (if x1 < (nI (ρ.2.2.1 r0)) then x1 else (nI (ρ.2.2.1 r0))).toNatClampNeg) = M8 at h
      cases h
      exact ao_le_rf _
set_option maxRecDepth 100000 in
set_option maxHeartbeats 4000000 in
theorem wJ7_copyOf_59c91 {Γ : ao_C} (d : Nat) (hd : 1 ≤ d) (MC MS : Nat) : ∀ n : Nat, (∀ (r0 : Nat) (x1 : Int32) (M : ao_M) (ρ : ao_H) (y : Nat × ao_S), fJ7_copyOf_59c91 n 0 r0 x1 0 M ρ = some y → ao_W Γ uJ7_copyOf_59c91 (ao_rm d MC MS) (ao_Q Γ (ao_QR Γ y) MC MS) (ao_dc ρ y.2.2) (ao_ds ρ y.2.2) 0 [some (.ref (Γ.2.2.2 + r0)), some (.int x1), none] [] (M, ρ)) ∧ (∀ (r0 : Nat) (x1 : Int32) (q0 : Nat) (M : ao_M) (ρ : ao_H) (y : Nat × ao_S), fJ7_copyOf_59c91 n 17 r0 x1 q0 M ρ = some y → ao_W Γ uJ7_copyOf_59c91 (ao_rm d MC MS) (ao_Q Γ (ao_QR Γ y) MC MS) (ao_dc ρ y.2.2) (ao_ds ρ y.2.2) 17 [some (.ref (Γ.2.2.2 + r0)), some (.int x1), none] [.ref (Γ.2.2.2 + q0)] (M, ρ)) := by
  intro n
  induction n with
  | zero => exact ⟨fun _ _ _ _ _ h => ao_no h, fun _ _ _ _ _ _ h => ao_no h⟩
  | succ n ih =>
    refine ⟨?_, ?_⟩
    · intro r0 x1 M ρ y h
      replace h := ao_ifT h rfl
      refine ao_iload_n 1 dJ7_copyOf_59c91_0 rfl rfl ?_
      refine ao_aload_n 0 dJ7_copyOf_59c91_1 rfl rfl ?_
      obtain ⟨hk1, h⟩ := ao_some h
      refine an_alen r0 0 dJ7_copyOf_59c91_2 hk1 (by decide) ?_
      refine ao_icmp_ne 14 dJ7_copyOf_59c91_3 (by decide) (fun c2 => ?_) (fun c2 => ?_)
      · replace h := ao_ifF h c2
        refine ao_iload_n 1 dJ7_copyOf_59c91_14 rfl rfl ?_
        obtain ⟨n3, hn3, h⟩ := ao_bind h
        obtain ⟨hb4, h⟩ := ao_some h
        refine ba_newa n3 0 dJ7_copyOf_59c91_15 rfl (by decide) hn3 lna_0 hb4.1 hb4.2 (ao_dc_nw ((mJ7_copyOf_59c91 n).2 r0 x1 n3 (ao_zr M n3) (ao_nw ρ n3 0 x1.toNatClampNeg x1.toNatClampNeg) _ h)) ?_
        exact ih.2 r0 x1 n3 (ao_zr M n3) (ao_nw ρ n3 0 x1.toNatClampNeg x1.toNatClampNeg) _ h
      · replace h := ao_ifT h c2
        refine ao_aload_n 0 dJ7_copyOf_59c91_6 rfl rfl ?_
        exact ao_no h
    · intro r0 x1 q0 M ρ y h
      replace h := ao_ifF h (by decide)
      replace h := ao_ifT h rfl
      refine ao_astore_n 2 (lo' := [some (.ref (Γ.2.2.2 + r0)), some (.int x1), some (.ref (Γ.2.2.2 + q0))]) dJ7_copyOf_59c91_17 rfl (Nat.le_of_ble_eq_true rfl) rfl ?_
      refine ao_aload_n 0 dJ7_copyOf_59c91_18 rfl rfl ?_
      refine ao_iconst (v := 0) dJ7_copyOf_59c91_19 (by decide) ?_
      refine ao_aload_n 2 dJ7_copyOf_59c91_20 rfl rfl ?_
      refine ao_iconst (v := 0) dJ7_copyOf_59c91_21 (by decide) ?_
      refine ao_aload_n 0 dJ7_copyOf_59c91_22 rfl rfl ?_
      obtain ⟨hk5, h⟩ := ao_some h
      refine an_alen r0 0 dJ7_copyOf_59c91_23 hk5 (by decide) ?_
      refine ao_iload_n 1 dJ7_copyOf_59c91_24 rfl rfl ?_
      refine an_mmin dJ7_copyOf_59c91_25 lmn_J7_304 (Nat.le_of_ble_eq_true rfl) (ao_cpR (by omega)) ?_
      obtain ⟨hk6, h⟩ := ao_some h
      obtain ⟨hc7, h⟩ := ao_some h
      refine an_copy r0 q0 dJ7_copyOf_59c91_28 lcp_J7_150 hk5 hk6 hc7 (Nat.le_of_ble_eq_true rfl) (ao_cpR (by omega)) (fun M8 hM8 => ?_)
      replace h := ao_letD h hM8
      refine ao_aload_n 2 dJ7_copyOf_59c91_31 rfl rfl ?_
      cases h
      exact ao_areturn dJ7_copyOf_59c91_32 rfl (Or.inr ⟨_, rfl⟩) ⟨rfl, rfl⟩
theorem me_J7_copyOf_59c91 (n : Nat) (r0 : Nat) (x1 : Int32) (M : ao_M) (ρ : ao_H) {y : Nat × ao_S} (h : gJ7_copyOf_59c91 n r0 x1 M ρ = some y) : ao_le ρ y.2.2 := (mJ7_copyOf_59c91 n).1 r0 x1 M ρ y h
set_option maxRecDepth 100000 in
set_option maxHeartbeats 4000000 in
theorem aJ7_copyOf_59c91 {Γ : ao_C} (d : Nat) (hd : 1 ≤ d) (n : Nat) (r0 : Nat) (x1 : Int32) (M : ao_M) (ρ : ao_H) {y : Nat × ao_S} (h : gJ7_copyOf_59c91 n r0 x1 M ρ = some y) : ao_A Γ uJ7_copyOf_59c91 d (ao_dc ρ y.2.2) (ao_ds ρ y.2.2) [.ref (Γ.2.2.2 + r0), .int x1] (M, ρ) (ao_QR Γ y) := by
  refine ao_of (by decide) (ao_cat1 (Nat.le_of_ble_eq_true rfl)) (Nat.le_of_ble_eq_true rfl) ?_
  show ao_W Γ uJ7_copyOf_59c91 (ao_rm d (ao_dc ρ y.2.2) (ao_ds ρ y.2.2)) (ao_Q Γ (ao_QR Γ y) (ao_dc ρ y.2.2) (ao_ds ρ y.2.2)) (ao_dc ρ y.2.2) (ao_ds ρ y.2.2) 0 [some (.ref (Γ.2.2.2 + r0)), some (.int x1), none] [] (M, ρ)
  exact (wJ7_copyOf_59c91 d hd _ _ n).1 r0 x1 M ρ y h

abbrev uL_end : ao_Mi := (yL_end, cL_end, 4, (some .int), [(0, 9, 12, 19)])
def fL_end : Nat → Nat → Nat → Int32 → Nat → Int32 → Int32 → Nat →  ao_M → ao_H → Option (Int32 × ao_S)
  | 0, _, _, _, _, _, _, _, _, _ => none
  | n + 1, pc, r0, x1, r2, s0, s1, q2, M, ρ =>
    if pc = 0 then
      if ρ.2.1 r0 = 20 then
      (gX10_end n r0 x1 M ρ).bind fun p2 =>
      ao_cs p2.1 (fun wx3 => fL_end n 7 r0 x1 r2 wx3 (0 : Int32) r2 p2.2.1 p2.2.2) fun E5 =>
        if E5 = "java/lang/IllegalArgumentException" then
          some ((1 : Int32), p2.2.1, p2.2.2)
        else
        none
      else none
    else if pc = 7 then
      if ρ.2.1 q2 = 3 then
      if ¬ (s1 < 0 ∨ ρ.2.2.1 q2 ≤ s1.toNatClampNeg) then
      ao_let (ao_u M q2 s1.toNatClampNeg s0) fun M9 =>
      some ((0 : Int32), M9, ρ)
      else none
      else none
    else none
def gL_end (n : Nat) (r0 : Nat) (x1 : Int32) (r2 : Nat) (M : ao_M) (ρ : ao_H) : Option (Int32 × ao_S) := fL_end n 0 r0 x1 r2 0 0 0 M ρ
set_option maxRecDepth 100000 in
set_option maxHeartbeats 4000000 in
theorem mL_end : ∀ n : Nat, (∀ (r0 : Nat) (x1 : Int32) (r2 : Nat) (M : ao_M) (ρ : ao_H) (y : Int32 × ao_S), fL_end n 0 r0 x1 r2 0 0 0 M ρ = some y → ao_le ρ y.2.2) ∧ (∀ (r0 : Nat) (x1 : Int32) (r2 : Nat) (s0 : Int32) (s1 : Int32) (q2 : Nat) (M : ao_M) (ρ : ao_H) (y : Int32 × ao_S), fL_end n 7 r0 x1 r2 s0 s1 q2 M ρ = some y → ao_le ρ y.2.2) := by
  intro n
  induction n with
  | zero => exact ⟨fun _ _ _ _ _ _ h => ao_no h, fun _ _ _ _ _ _ _ _ _ h => ao_no h⟩
  | succ n ih =>
    refine ⟨?_, ?_⟩
    · intro r0 x1 r2 M ρ y h
      replace h := ao_ifT h rfl
      obtain ⟨-, h⟩ := ao_some h
      obtain ⟨p2, hp2, h⟩ := ao_bind h
      refine ao_le_tr (me_X10_end n r0 x1 M ρ hp2) ?_
      refine ao_csM h (fun wx3 h => ?_) (fun _ h => ?_)
      · exact ih.2 r0 x1 r2 wx3 (0 : Int32) r2 p2.2.1 p2.2.2 _ h
      · rcases ao_ifC h with h | h
        · cases h
          exact ao_le_rf _
        · exact ao_no h
    · intro r0 x1 r2 s0 s1 q2 M ρ y h
      replace h := ao_ifF h (by decide)
      replace h := ao_ifT h rfl
      obtain ⟨-, h⟩ := ao_some h
      obtain ⟨-, h⟩ := ao_some h
      replace h := ao_letD h rfl
      generalize (ao_u M q2 s1.toNatClampNeg s0) = M9 at h
      cases h
      exact ao_le_rf _
set_option maxRecDepth 100000 in
set_option maxHeartbeats 4000000 in
theorem wL_end {Γ : ao_C} (d : Nat) (hd : 9 ≤ d) (MC MS : Nat) : ∀ n : Nat, (∀ (r0 : Nat) (x1 : Int32) (r2 : Nat) (M : ao_M) (ρ : ao_H) (y : Int32 × ao_S), fL_end n 0 r0 x1 r2 0 0 0 M ρ = some y → ao_W Γ uL_end (ao_rm d MC MS) (ao_Q Γ (ao_QI y) MC MS) (ao_dc ρ y.2.2) (ao_ds ρ y.2.2) 0 [some (.ref (Γ.2.2.2 + r0)), some (.int x1), some (.ref (Γ.2.2.2 + r2)), none] [] (M, ρ)) ∧ (∀ (r0 : Nat) (x1 : Int32) (r2 : Nat) (s0 : Int32) (s1 : Int32) (q2 : Nat) (M : ao_M) (ρ : ao_H) (y : Int32 × ao_S), fL_end n 7 r0 x1 r2 s0 s1 q2 M ρ = some y → ao_W Γ uL_end (ao_rm d MC MS) (ao_Q Γ (ao_QI y) MC MS) (ao_dc ρ y.2.2) (ao_ds ρ y.2.2) 7 [some (.ref (Γ.2.2.2 + r0)), some (.int x1), some (.ref (Γ.2.2.2 + r2)), none] [.int s0, .int s1, .ref (Γ.2.2.2 + q2)] (M, ρ)) := by
  intro n
  induction n with
  | zero => exact ⟨fun _ _ _ _ _ _ h => ao_no h, fun _ _ _ _ _ _ _ _ _ h => ao_no h⟩
  | succ n ih =>
    refine ⟨?_, ?_⟩
    · intro r0 x1 r2 M ρ y h
      replace h := ao_ifT h rfl
      refine ao_aload_n 2 dL_end_0 rfl rfl ?_
      refine ao_iconst (v := 0) dL_end_1 (by decide) ?_
      refine ao_aload_n 0 dL_end_2 rfl rfl ?_
      refine ao_iload_n 1 dL_end_3 rfl rfl ?_
      obtain ⟨hk1, h⟩ := ao_some h
      obtain ⟨p2, hp2, h⟩ := ao_bind h
      have e9 : ao_le p2.2.2 y.2.2 := by
        refine ao_csM h (fun wx3 h => (mL_end n).2 r0 x1 r2 wx3 (0 : Int32) r2 p2.2.1 p2.2.2 _ h) (fun _ h => ?_)
        rcases ao_ifC h with h | h
        · cases h
          exact ao_le_rf _
        · exact ao_no h
      refine cx_callVi r0 10 (q := (RX10, TX10, 6)) [.int x1] (aX10_end (d - 1) (by omega) n r0 x1 M ρ hp2) dL_end_4 lc_L_15 li_X10_end ls_X10_end rfl hk1 rfl rfl (Nat.le_of_ble_eq_true rfl) (ao_hR (by omega) (by decide)) (ao_leC (me_X10_end n r0 x1 M ρ hp2) e9) (ao_leS (me_X10_end n r0 x1 M ρ hp2) e9) (fun wx3 e4 => ?_) (fun E5 e4 => ?_)
      · replace h := ao_csL h e4
        exact ih.2 r0 x1 r2 wx3 (0 : Int32) r2 p2.2.1 p2.2.2 _ h
      · replace h := ao_csR h e4
        by_cases c6 : E5 = "java/lang/IllegalArgumentException"
        · subst c6
          replace h := ao_ifT h rfl
          refine cx_catch "java/lang/IllegalArgumentException" [] (⟨0, 9, 12, 19⟩ : ExceptionTableEntry) [] rfl (fun z hz => nomatch hz) (by decide) (by decide) lcl_L_19 (by decide +kernel) (fun a9 => ?_)
          refine ao_astore_n 3 (lo' := [some (.ref (Γ.2.2.2 + r0)), some (.int x1), some (.ref (Γ.2.2.2 + r2)), some (.ref a9)]) dL_end_12 rfl (Nat.le_of_ble_eq_true rfl) rfl ?_
          refine ao_iconst (v := 1) dL_end_13 (by decide) ?_
          cases h
          exact ao_ireturn dL_end_14 rfl rfl ⟨rfl, rfl⟩
        · replace h := ao_ifF h c6
          exact ao_no h
    · intro r0 x1 r2 s0 s1 q2 M ρ y h
      replace h := ao_ifF h (by decide)
      replace h := ao_ifT h rfl
      refine ao_i2l dL_end_7 ?_
      obtain ⟨hk7, h⟩ := ao_some h
      obtain ⟨hb8, h⟩ := ao_some h
      refine an_lastore q2 dL_end_8 hk7 hb8 (fun M9 hM9 => ?_)
      replace h := ao_letD h hM9
      refine ao_goto 15 dL_end_9 (by decide) ?_
      refine ao_iconst (v := 0) dL_end_15 (by decide) ?_
      cases h
      exact ao_ireturn dL_end_16 rfl rfl ⟨rfl, rfl⟩
theorem me_L_end (n : Nat) (r0 : Nat) (x1 : Int32) (r2 : Nat) (M : ao_M) (ρ : ao_H) {y : Int32 × ao_S} (h : gL_end n r0 x1 r2 M ρ = some y) : ao_le ρ y.2.2 := (mL_end n).1 r0 x1 r2 M ρ y h
set_option maxRecDepth 100000 in
set_option maxHeartbeats 4000000 in
theorem aL_end {Γ : ao_C} (d : Nat) (hd : 9 ≤ d) (n : Nat) (r0 : Nat) (x1 : Int32) (r2 : Nat) (M : ao_M) (ρ : ao_H) {y : Int32 × ao_S} (h : gL_end n r0 x1 r2 M ρ = some y) : ao_A Γ uL_end d (ao_dc ρ y.2.2) (ao_ds ρ y.2.2) [.ref (Γ.2.2.2 + r0), .int x1, .ref (Γ.2.2.2 + r2)] (M, ρ) (ao_QI y) := by
  refine ao_ofH (by decide) rfl (ao_cat1 (Nat.le_of_ble_eq_true rfl)) (Nat.le_of_ble_eq_true rfl) ?_
  show ao_W Γ uL_end (ao_rm d (ao_dc ρ y.2.2) (ao_ds ρ y.2.2)) (ao_Q Γ (ao_QI y) (ao_dc ρ y.2.2) (ao_ds ρ y.2.2)) (ao_dc ρ y.2.2) (ao_ds ρ y.2.2) 0 [some (.ref (Γ.2.2.2 + r0)), some (.int x1), some (.ref (Γ.2.2.2 + r2)), none] [] (M, ρ)
  exact (wL_end d hd _ _ n).1 r0 x1 r2 M ρ y h

abbrev uL_has : ao_Mi := (yL_has, cL_has, 4, (some .int), [(0, 9, 12, 19)])
def fL_has : Nat → Nat → Nat → Int32 → Nat → Int32 → Int32 → Nat →  ao_M → ao_H → Option (Int32 × ao_S)
  | 0, _, _, _, _, _, _, _, _, _ => none
  | n + 1, pc, r0, x1, r2, s0, s1, q2, M, ρ =>
    if pc = 0 then
      if ρ.2.1 r0 = 20 then
      (gX10_has n r0 x1 M ρ).bind fun p2 =>
      ao_cs p2.1 (fun wx3 => fL_has n 7 r0 x1 r2 wx3 (0 : Int32) r2 p2.2.1 p2.2.2) fun E5 =>
        if E5 = "java/lang/IllegalArgumentException" then
          some ((1 : Int32), p2.2.1, p2.2.2)
        else
        none
      else none
    else if pc = 7 then
      if ρ.2.1 q2 = 3 then
      if ¬ (s1 < 0 ∨ ρ.2.2.1 q2 ≤ s1.toNatClampNeg) then
      ao_let (ao_u M q2 s1.toNatClampNeg s0) fun M9 =>
      some ((0 : Int32), M9, ρ)
      else none
      else none
    else none
def gL_has (n : Nat) (r0 : Nat) (x1 : Int32) (r2 : Nat) (M : ao_M) (ρ : ao_H) : Option (Int32 × ao_S) := fL_has n 0 r0 x1 r2 0 0 0 M ρ
set_option maxRecDepth 100000 in
set_option maxHeartbeats 4000000 in
theorem mL_has : ∀ n : Nat, (∀ (r0 : Nat) (x1 : Int32) (r2 : Nat) (M : ao_M) (ρ : ao_H) (y : Int32 × ao_S), fL_has n 0 r0 x1 r2 0 0 0 M ρ = some y → ao_le ρ y.2.2) ∧ (∀ (r0 : Nat) (x1 : Int32) (r2 : Nat) (s0 : Int32) (s1 : Int32) (q2 : Nat) (M : ao_M) (ρ : ao_H) (y : Int32 × ao_S), fL_has n 7 r0 x1 r2 s0 s1 q2 M ρ = some y → ao_le ρ y.2.2) := by
  intro n
  induction n with
  | zero => exact ⟨fun _ _ _ _ _ _ h => ao_no h, fun _ _ _ _ _ _ _ _ _ h => ao_no h⟩
  | succ n ih =>
    refine ⟨?_, ?_⟩
    · intro r0 x1 r2 M ρ y h
      replace h := ao_ifT h rfl
      obtain ⟨-, h⟩ := ao_some h
      obtain ⟨p2, hp2, h⟩ := ao_bind h
      refine ao_le_tr (me_X10_has n r0 x1 M ρ hp2) ?_
      refine ao_csM h (fun wx3 h => ?_) (fun _ h => ?_)
      · exact ih.2 r0 x1 r2 wx3 (0 : Int32) r2 p2.2.1 p2.2.2 _ h
      · rcases ao_ifC h with h | h
        · cases h
          exact ao_le_rf _
        · exact ao_no h
    · intro r0 x1 r2 s0 s1 q2 M ρ y h
      replace h := ao_ifF h (by decide)
      replace h := ao_ifT h rfl
      obtain ⟨-, h⟩ := ao_some h
      obtain ⟨-, h⟩ := ao_some h
      replace h := ao_letD h rfl
      generalize (ao_u M q2 s1.toNatClampNeg s0) = M9 at h
      cases h
      exact ao_le_rf _
set_option maxRecDepth 100000 in
set_option maxHeartbeats 4000000 in
theorem wL_has {Γ : ao_C} (d : Nat) (hd : 9 ≤ d) (MC MS : Nat) : ∀ n : Nat, (∀ (r0 : Nat) (x1 : Int32) (r2 : Nat) (M : ao_M) (ρ : ao_H) (y : Int32 × ao_S), fL_has n 0 r0 x1 r2 0 0 0 M ρ = some y → ao_W Γ uL_has (ao_rm d MC MS) (ao_Q Γ (ao_QI y) MC MS) (ao_dc ρ y.2.2) (ao_ds ρ y.2.2) 0 [some (.ref (Γ.2.2.2 + r0)), some (.int x1), some (.ref (Γ.2.2.2 + r2)), none] [] (M, ρ)) ∧ (∀ (r0 : Nat) (x1 : Int32) (r2 : Nat) (s0 : Int32) (s1 : Int32) (q2 : Nat) (M : ao_M) (ρ : ao_H) (y : Int32 × ao_S), fL_has n 7 r0 x1 r2 s0 s1 q2 M ρ = some y → ao_W Γ uL_has (ao_rm d MC MS) (ao_Q Γ (ao_QI y) MC MS) (ao_dc ρ y.2.2) (ao_ds ρ y.2.2) 7 [some (.ref (Γ.2.2.2 + r0)), some (.int x1), some (.ref (Γ.2.2.2 + r2)), none] [.int s0, .int s1, .ref (Γ.2.2.2 + q2)] (M, ρ)) := by
  intro n
  induction n with
  | zero => exact ⟨fun _ _ _ _ _ _ h => ao_no h, fun _ _ _ _ _ _ _ _ _ h => ao_no h⟩
  | succ n ih =>
    refine ⟨?_, ?_⟩
    · intro r0 x1 r2 M ρ y h
      replace h := ao_ifT h rfl
      refine ao_aload_n 2 dL_has_0 rfl rfl ?_
      refine ao_iconst (v := 0) dL_has_1 (by decide) ?_
      refine ao_aload_n 0 dL_has_2 rfl rfl ?_
      refine ao_iload_n 1 dL_has_3 rfl rfl ?_
      obtain ⟨hk1, h⟩ := ao_some h
      obtain ⟨p2, hp2, h⟩ := ao_bind h
      have e9 : ao_le p2.2.2 y.2.2 := by
        refine ao_csM h (fun wx3 h => (mL_has n).2 r0 x1 r2 wx3 (0 : Int32) r2 p2.2.1 p2.2.2 _ h) (fun _ h => ?_)
        rcases ao_ifC h with h | h
        · cases h
          exact ao_le_rf _
        · exact ao_no h
      refine cx_callVi r0 10 (q := (RX10, TX10, 6)) [.int x1] (aX10_has (d - 1) (by omega) n r0 x1 M ρ hp2) dL_has_4 lc_L_42 li_X10_has ls_X10_has rfl hk1 rfl rfl (Nat.le_of_ble_eq_true rfl) (ao_hR (by omega) (by decide)) (ao_leC (me_X10_has n r0 x1 M ρ hp2) e9) (ao_leS (me_X10_has n r0 x1 M ρ hp2) e9) (fun wx3 e4 => ?_) (fun E5 e4 => ?_)
      · replace h := ao_csL h e4
        exact ih.2 r0 x1 r2 wx3 (0 : Int32) r2 p2.2.1 p2.2.2 _ h
      · replace h := ao_csR h e4
        by_cases c6 : E5 = "java/lang/IllegalArgumentException"
        · subst c6
          replace h := ao_ifT h rfl
          refine cx_catch "java/lang/IllegalArgumentException" [] (⟨0, 9, 12, 19⟩ : ExceptionTableEntry) [] rfl (fun z hz => nomatch hz) (by decide) (by decide) lcl_L_19 (by decide +kernel) (fun a9 => ?_)
          refine ao_astore_n 3 (lo' := [some (.ref (Γ.2.2.2 + r0)), some (.int x1), some (.ref (Γ.2.2.2 + r2)), some (.ref a9)]) dL_has_12 rfl (Nat.le_of_ble_eq_true rfl) rfl ?_
          refine ao_iconst (v := 1) dL_has_13 (by decide) ?_
          cases h
          exact ao_ireturn dL_has_14 rfl rfl ⟨rfl, rfl⟩
        · replace h := ao_ifF h c6
          exact ao_no h
    · intro r0 x1 r2 s0 s1 q2 M ρ y h
      replace h := ao_ifF h (by decide)
      replace h := ao_ifT h rfl
      refine ao_i2l dL_has_7 ?_
      obtain ⟨hk7, h⟩ := ao_some h
      obtain ⟨hb8, h⟩ := ao_some h
      refine an_lastore q2 dL_has_8 hk7 hb8 (fun M9 hM9 => ?_)
      replace h := ao_letD h hM9
      refine ao_goto 15 dL_has_9 (by decide) ?_
      refine ao_iconst (v := 0) dL_has_15 (by decide) ?_
      cases h
      exact ao_ireturn dL_has_16 rfl rfl ⟨rfl, rfl⟩
theorem me_L_has (n : Nat) (r0 : Nat) (x1 : Int32) (r2 : Nat) (M : ao_M) (ρ : ao_H) {y : Int32 × ao_S} (h : gL_has n r0 x1 r2 M ρ = some y) : ao_le ρ y.2.2 := (mL_has n).1 r0 x1 r2 M ρ y h
set_option maxRecDepth 100000 in
set_option maxHeartbeats 4000000 in
theorem aL_has {Γ : ao_C} (d : Nat) (hd : 9 ≤ d) (n : Nat) (r0 : Nat) (x1 : Int32) (r2 : Nat) (M : ao_M) (ρ : ao_H) {y : Int32 × ao_S} (h : gL_has n r0 x1 r2 M ρ = some y) : ao_A Γ uL_has d (ao_dc ρ y.2.2) (ao_ds ρ y.2.2) [.ref (Γ.2.2.2 + r0), .int x1, .ref (Γ.2.2.2 + r2)] (M, ρ) (ao_QI y) := by
  refine ao_ofH (by decide) rfl (ao_cat1 (Nat.le_of_ble_eq_true rfl)) (Nat.le_of_ble_eq_true rfl) ?_
  show ao_W Γ uL_has (ao_rm d (ao_dc ρ y.2.2) (ao_ds ρ y.2.2)) (ao_Q Γ (ao_QI y) (ao_dc ρ y.2.2) (ao_ds ρ y.2.2)) (ao_dc ρ y.2.2) (ao_ds ρ y.2.2) 0 [some (.ref (Γ.2.2.2 + r0)), some (.int x1), some (.ref (Γ.2.2.2 + r2)), none] [] (M, ρ)
  exact (wL_has d hd _ _ n).1 r0 x1 r2 M ρ y h

abbrev uL_had : ao_Mi := (yL_had, cL_had, 5, (some .int), [(0, 10, 13, 19)])
def fL_had : Nat → Nat → Nat → Int32 → Int32 → Nat → Int32 → Int32 → Nat →  ao_M → ao_H → Option (Int32 × ao_S)
  | 0, _, _, _, _, _, _, _, _, _, _ => none
  | n + 1, pc, r0, x1, x2, r3, s0, s1, q2, M, ρ =>
    if pc = 0 then
      if ρ.2.1 r0 = 20 then
      (gX10_had n r0 x1 x2 M ρ).bind fun p2 =>
      ao_cs p2.1 (fun wx3 => fL_had n 8 r0 x1 x2 r3 wx3 (0 : Int32) r3 p2.2.1 p2.2.2) fun E5 =>
        if E5 = "java/lang/IllegalArgumentException" then
          some ((1 : Int32), p2.2.1, p2.2.2)
        else
        none
      else none
    else if pc = 8 then
      if ρ.2.1 q2 = 3 then
      if ¬ (s1 < 0 ∨ ρ.2.2.1 q2 ≤ s1.toNatClampNeg) then
      ao_let (ao_u M q2 s1.toNatClampNeg s0) fun M9 =>
      some ((0 : Int32), M9, ρ)
      else none
      else none
    else none
def gL_had (n : Nat) (r0 : Nat) (x1 : Int32) (x2 : Int32) (r3 : Nat) (M : ao_M) (ρ : ao_H) : Option (Int32 × ao_S) := fL_had n 0 r0 x1 x2 r3 0 0 0 M ρ
set_option maxRecDepth 100000 in
set_option maxHeartbeats 4000000 in
theorem mL_had : ∀ n : Nat, (∀ (r0 : Nat) (x1 : Int32) (x2 : Int32) (r3 : Nat) (M : ao_M) (ρ : ao_H) (y : Int32 × ao_S), fL_had n 0 r0 x1 x2 r3 0 0 0 M ρ = some y → ao_le ρ y.2.2) ∧ (∀ (r0 : Nat) (x1 : Int32) (x2 : Int32) (r3 : Nat) (s0 : Int32) (s1 : Int32) (q2 : Nat) (M : ao_M) (ρ : ao_H) (y : Int32 × ao_S), fL_had n 8 r0 x1 x2 r3 s0 s1 q2 M ρ = some y → ao_le ρ y.2.2) := by
  intro n
  induction n with
  | zero => exact ⟨fun _ _ _ _ _ _ _ h => ao_no h, fun _ _ _ _ _ _ _ _ _ _ h => ao_no h⟩
  | succ n ih =>
    refine ⟨?_, ?_⟩
    · intro r0 x1 x2 r3 M ρ y h
      replace h := ao_ifT h rfl
      obtain ⟨-, h⟩ := ao_some h
      obtain ⟨p2, hp2, h⟩ := ao_bind h
      refine ao_le_tr (me_X10_had n r0 x1 x2 M ρ hp2) ?_
      refine ao_csM h (fun wx3 h => ?_) (fun _ h => ?_)
      · exact ih.2 r0 x1 x2 r3 wx3 (0 : Int32) r3 p2.2.1 p2.2.2 _ h
      · rcases ao_ifC h with h | h
        · cases h
          exact ao_le_rf _
        · exact ao_no h
    · intro r0 x1 x2 r3 s0 s1 q2 M ρ y h
      replace h := ao_ifF h (by decide)
      replace h := ao_ifT h rfl
      obtain ⟨-, h⟩ := ao_some h
      obtain ⟨-, h⟩ := ao_some h
      replace h := ao_letD h rfl
      generalize (ao_u M q2 s1.toNatClampNeg s0) = M9 at h
      cases h
      exact ao_le_rf _
set_option maxRecDepth 100000 in
set_option maxHeartbeats 4000000 in
theorem wL_had {Γ : ao_C} (d : Nat) (hd : 9 ≤ d) (MC MS : Nat) : ∀ n : Nat, (∀ (r0 : Nat) (x1 : Int32) (x2 : Int32) (r3 : Nat) (M : ao_M) (ρ : ao_H) (y : Int32 × ao_S), fL_had n 0 r0 x1 x2 r3 0 0 0 M ρ = some y → ao_W Γ uL_had (ao_rm d MC MS) (ao_Q Γ (ao_QI y) MC MS) (ao_dc ρ y.2.2) (ao_ds ρ y.2.2) 0 [some (.ref (Γ.2.2.2 + r0)), some (.int x1), some (.int x2), some (.ref (Γ.2.2.2 + r3)), none] [] (M, ρ)) ∧ (∀ (r0 : Nat) (x1 : Int32) (x2 : Int32) (r3 : Nat) (s0 : Int32) (s1 : Int32) (q2 : Nat) (M : ao_M) (ρ : ao_H) (y : Int32 × ao_S), fL_had n 8 r0 x1 x2 r3 s0 s1 q2 M ρ = some y → ao_W Γ uL_had (ao_rm d MC MS) (ao_Q Γ (ao_QI y) MC MS) (ao_dc ρ y.2.2) (ao_ds ρ y.2.2) 8 [some (.ref (Γ.2.2.2 + r0)), some (.int x1), some (.int x2), some (.ref (Γ.2.2.2 + r3)), none] [.int s0, .int s1, .ref (Γ.2.2.2 + q2)] (M, ρ)) := by
  intro n
  induction n with
  | zero => exact ⟨fun _ _ _ _ _ _ _ h => ao_no h, fun _ _ _ _ _ _ _ _ _ _ h => ao_no h⟩
  | succ n ih =>
    refine ⟨?_, ?_⟩
    · intro r0 x1 x2 r3 M ρ y h
      replace h := ao_ifT h rfl
      refine ao_aload_n 3 dL_had_0 rfl rfl ?_
      refine ao_iconst (v := 0) dL_had_1 (by decide) ?_
      refine ao_aload_n 0 dL_had_2 rfl rfl ?_
      refine ao_iload_n 1 dL_had_3 rfl rfl ?_
      refine ao_iload_n 2 dL_had_4 rfl rfl ?_
      obtain ⟨hk1, h⟩ := ao_some h
      obtain ⟨p2, hp2, h⟩ := ao_bind h
      have e9 : ao_le p2.2.2 y.2.2 := by
        refine ao_csM h (fun wx3 h => (mL_had n).2 r0 x1 x2 r3 wx3 (0 : Int32) r3 p2.2.1 p2.2.2 _ h) (fun _ h => ?_)
        rcases ao_ifC h with h | h
        · cases h
          exact ao_le_rf _
        · exact ao_no h
      refine cx_callVi r0 10 (q := (RX10, TX10, 6)) [.int x1, .int x2] (aX10_had (d - 1) (by omega) n r0 x1 x2 M ρ hp2) dL_had_5 lc_L_45 li_X10_had ls_X10_had rfl hk1 rfl rfl (Nat.le_of_ble_eq_true rfl) (ao_hR (by omega) (by decide)) (ao_leC (me_X10_had n r0 x1 x2 M ρ hp2) e9) (ao_leS (me_X10_had n r0 x1 x2 M ρ hp2) e9) (fun wx3 e4 => ?_) (fun E5 e4 => ?_)
      · replace h := ao_csL h e4
        exact ih.2 r0 x1 x2 r3 wx3 (0 : Int32) r3 p2.2.1 p2.2.2 _ h
      · replace h := ao_csR h e4
        by_cases c6 : E5 = "java/lang/IllegalArgumentException"
        · subst c6
          replace h := ao_ifT h rfl
          refine cx_catch "java/lang/IllegalArgumentException" [] (⟨0, 10, 13, 19⟩ : ExceptionTableEntry) [] rfl (fun z hz => nomatch hz) (by decide) (by decide) lcl_L_19 (by decide +kernel) (fun a9 => ?_)
          refine ao_astore 4 (lo' := [some (.ref (Γ.2.2.2 + r0)), some (.int x1), some (.int x2), some (.ref (Γ.2.2.2 + r3)), some (.ref a9)]) dL_had_13 (Nat.le_of_ble_eq_true rfl) rfl ?_
          refine ao_iconst (v := 1) dL_had_15 (by decide) ?_
          cases h
          exact ao_ireturn dL_had_16 rfl rfl ⟨rfl, rfl⟩
        · replace h := ao_ifF h c6
          exact ao_no h
    · intro r0 x1 x2 r3 s0 s1 q2 M ρ y h
      replace h := ao_ifF h (by decide)
      replace h := ao_ifT h rfl
      refine ao_i2l dL_had_8 ?_
      obtain ⟨hk7, h⟩ := ao_some h
      obtain ⟨hb8, h⟩ := ao_some h
      refine an_lastore q2 dL_had_9 hk7 hb8 (fun M9 hM9 => ?_)
      replace h := ao_letD h hM9
      refine ao_goto 17 dL_had_10 (by decide) ?_
      refine ao_iconst (v := 0) dL_had_17 (by decide) ?_
      cases h
      exact ao_ireturn dL_had_18 rfl rfl ⟨rfl, rfl⟩
theorem me_L_had (n : Nat) (r0 : Nat) (x1 : Int32) (x2 : Int32) (r3 : Nat) (M : ao_M) (ρ : ao_H) {y : Int32 × ao_S} (h : gL_had n r0 x1 x2 r3 M ρ = some y) : ao_le ρ y.2.2 := (mL_had n).1 r0 x1 x2 r3 M ρ y h
set_option maxRecDepth 100000 in
set_option maxHeartbeats 4000000 in
theorem aL_had {Γ : ao_C} (d : Nat) (hd : 9 ≤ d) (n : Nat) (r0 : Nat) (x1 : Int32) (x2 : Int32) (r3 : Nat) (M : ao_M) (ρ : ao_H) {y : Int32 × ao_S} (h : gL_had n r0 x1 x2 r3 M ρ = some y) : ao_A Γ uL_had d (ao_dc ρ y.2.2) (ao_ds ρ y.2.2) [.ref (Γ.2.2.2 + r0), .int x1, .int x2, .ref (Γ.2.2.2 + r3)] (M, ρ) (ao_QI y) := by
  refine ao_ofH (by decide) rfl (ao_cat1 (Nat.le_of_ble_eq_true rfl)) (Nat.le_of_ble_eq_true rfl) ?_
  show ao_W Γ uL_had (ao_rm d (ao_dc ρ y.2.2) (ao_ds ρ y.2.2)) (ao_Q Γ (ao_QI y) (ao_dc ρ y.2.2) (ao_ds ρ y.2.2)) (ao_dc ρ y.2.2) (ao_ds ρ y.2.2) 0 [some (.ref (Γ.2.2.2 + r0)), some (.int x1), some (.int x2), some (.ref (Γ.2.2.2 + r3)), none] [] (M, ρ)
  exact (wL_had d hd _ _ n).1 r0 x1 x2 r3 M ρ y h

abbrev uL_register : ao_Mi := (yL_register, cL_register, 5, (some .int), [(0, 10, 13, 19)])
def fL_register : Nat → Nat → Nat → Int32 → Int32 → Nat → Int32 → Int32 → Nat →  ao_M → ao_H → Option (Int32 × ao_S)
  | 0, _, _, _, _, _, _, _, _, _, _ => none
  | n + 1, pc, r0, x1, x2, r3, s0, s1, q2, M, ρ =>
    if pc = 0 then
      if ρ.2.1 r0 = 20 then
      (gX10_register n r0 x1 x2 M ρ).bind fun p2 =>
      ao_cs p2.1 (fun wx3 => fL_register n 8 r0 x1 x2 r3 wx3 (0 : Int32) r3 p2.2.1 p2.2.2) fun E5 =>
        if E5 = "java/lang/IllegalArgumentException" then
          some ((1 : Int32), p2.2.1, p2.2.2)
        else
        none
      else none
    else if pc = 8 then
      if ρ.2.1 q2 = 3 then
      if ¬ (s1 < 0 ∨ ρ.2.2.1 q2 ≤ s1.toNatClampNeg) then
      ao_let (ao_u M q2 s1.toNatClampNeg s0) fun M9 =>
      some ((0 : Int32), M9, ρ)
      else none
      else none
    else none
def gL_register (n : Nat) (r0 : Nat) (x1 : Int32) (x2 : Int32) (r3 : Nat) (M : ao_M) (ρ : ao_H) : Option (Int32 × ao_S) := fL_register n 0 r0 x1 x2 r3 0 0 0 M ρ
set_option maxRecDepth 100000 in
set_option maxHeartbeats 4000000 in
theorem mL_register : ∀ n : Nat, (∀ (r0 : Nat) (x1 : Int32) (x2 : Int32) (r3 : Nat) (M : ao_M) (ρ : ao_H) (y : Int32 × ao_S), fL_register n 0 r0 x1 x2 r3 0 0 0 M ρ = some y → ao_le ρ y.2.2) ∧ (∀ (r0 : Nat) (x1 : Int32) (x2 : Int32) (r3 : Nat) (s0 : Int32) (s1 : Int32) (q2 : Nat) (M : ao_M) (ρ : ao_H) (y : Int32 × ao_S), fL_register n 8 r0 x1 x2 r3 s0 s1 q2 M ρ = some y → ao_le ρ y.2.2) := by
  intro n
  induction n with
  | zero => exact ⟨fun _ _ _ _ _ _ _ h => ao_no h, fun _ _ _ _ _ _ _ _ _ _ h => ao_no h⟩
  | succ n ih =>
    refine ⟨?_, ?_⟩
    · intro r0 x1 x2 r3 M ρ y h
      replace h := ao_ifT h rfl
      obtain ⟨-, h⟩ := ao_some h
      obtain ⟨p2, hp2, h⟩ := ao_bind h
      refine ao_le_tr (me_X10_register n r0 x1 x2 M ρ hp2) ?_
      refine ao_csM h (fun wx3 h => ?_) (fun _ h => ?_)
      · exact ih.2 r0 x1 x2 r3 wx3 (0 : Int32) r3 p2.2.1 p2.2.2 _ h
      · rcases ao_ifC h with h | h
        · cases h
          exact ao_le_rf _
        · exact ao_no h
    · intro r0 x1 x2 r3 s0 s1 q2 M ρ y h
      replace h := ao_ifF h (by decide)
      replace h := ao_ifT h rfl
      obtain ⟨-, h⟩ := ao_some h
      obtain ⟨-, h⟩ := ao_some h
      replace h := ao_letD h rfl
      generalize (ao_u M q2 s1.toNatClampNeg s0) = M9 at h
      cases h
      exact ao_le_rf _
set_option maxRecDepth 100000 in
set_option maxHeartbeats 4000000 in
theorem wL_register {Γ : ao_C} (d : Nat) (hd : 9 ≤ d) (MC MS : Nat) : ∀ n : Nat, (∀ (r0 : Nat) (x1 : Int32) (x2 : Int32) (r3 : Nat) (M : ao_M) (ρ : ao_H) (y : Int32 × ao_S), fL_register n 0 r0 x1 x2 r3 0 0 0 M ρ = some y → ao_W Γ uL_register (ao_rm d MC MS) (ao_Q Γ (ao_QI y) MC MS) (ao_dc ρ y.2.2) (ao_ds ρ y.2.2) 0 [some (.ref (Γ.2.2.2 + r0)), some (.int x1), some (.int x2), some (.ref (Γ.2.2.2 + r3)), none] [] (M, ρ)) ∧ (∀ (r0 : Nat) (x1 : Int32) (x2 : Int32) (r3 : Nat) (s0 : Int32) (s1 : Int32) (q2 : Nat) (M : ao_M) (ρ : ao_H) (y : Int32 × ao_S), fL_register n 8 r0 x1 x2 r3 s0 s1 q2 M ρ = some y → ao_W Γ uL_register (ao_rm d MC MS) (ao_Q Γ (ao_QI y) MC MS) (ao_dc ρ y.2.2) (ao_ds ρ y.2.2) 8 [some (.ref (Γ.2.2.2 + r0)), some (.int x1), some (.int x2), some (.ref (Γ.2.2.2 + r3)), none] [.int s0, .int s1, .ref (Γ.2.2.2 + q2)] (M, ρ)) := by
  intro n
  induction n with
  | zero => exact ⟨fun _ _ _ _ _ _ _ h => ao_no h, fun _ _ _ _ _ _ _ _ _ _ h => ao_no h⟩
  | succ n ih =>
    refine ⟨?_, ?_⟩
    · intro r0 x1 x2 r3 M ρ y h
      replace h := ao_ifT h rfl
      refine ao_aload_n 3 dL_register_0 rfl rfl ?_
      refine ao_iconst (v := 0) dL_register_1 (by decide) ?_
      refine ao_aload_n 0 dL_register_2 rfl rfl ?_
      refine ao_iload_n 1 dL_register_3 rfl rfl ?_
      refine ao_iload_n 2 dL_register_4 rfl rfl ?_
      obtain ⟨hk1, h⟩ := ao_some h
      obtain ⟨p2, hp2, h⟩ := ao_bind h
      have e9 : ao_le p2.2.2 y.2.2 := by
        refine ao_csM h (fun wx3 h => (mL_register n).2 r0 x1 x2 r3 wx3 (0 : Int32) r3 p2.2.1 p2.2.2 _ h) (fun _ h => ?_)
        rcases ao_ifC h with h | h
        · cases h
          exact ao_le_rf _
        · exact ao_no h
      refine cx_callVi r0 10 (q := (RX10, TX10, 6)) [.int x1, .int x2] (aX10_register (d - 1) (by omega) n r0 x1 x2 M ρ hp2) dL_register_5 lc_L_48 li_X10_register ls_X10_register rfl hk1 rfl rfl (Nat.le_of_ble_eq_true rfl) (ao_hR (by omega) (by decide)) (ao_leC (me_X10_register n r0 x1 x2 M ρ hp2) e9) (ao_leS (me_X10_register n r0 x1 x2 M ρ hp2) e9) (fun wx3 e4 => ?_) (fun E5 e4 => ?_)
      · replace h := ao_csL h e4
        exact ih.2 r0 x1 x2 r3 wx3 (0 : Int32) r3 p2.2.1 p2.2.2 _ h
      · replace h := ao_csR h e4
        by_cases c6 : E5 = "java/lang/IllegalArgumentException"
        · subst c6
          replace h := ao_ifT h rfl
          refine cx_catch "java/lang/IllegalArgumentException" [] (⟨0, 10, 13, 19⟩ : ExceptionTableEntry) [] rfl (fun z hz => nomatch hz) (by decide) (by decide) lcl_L_19 (by decide +kernel) (fun a9 => ?_)
          refine ao_astore 4 (lo' := [some (.ref (Γ.2.2.2 + r0)), some (.int x1), some (.int x2), some (.ref (Γ.2.2.2 + r3)), some (.ref a9)]) dL_register_13 (Nat.le_of_ble_eq_true rfl) rfl ?_
          refine ao_iconst (v := 1) dL_register_15 (by decide) ?_
          cases h
          exact ao_ireturn dL_register_16 rfl rfl ⟨rfl, rfl⟩
        · replace h := ao_ifF h c6
          exact ao_no h
    · intro r0 x1 x2 r3 s0 s1 q2 M ρ y h
      replace h := ao_ifF h (by decide)
      replace h := ao_ifT h rfl
      refine ao_i2l dL_register_8 ?_
      obtain ⟨hk7, h⟩ := ao_some h
      obtain ⟨hb8, h⟩ := ao_some h
      refine an_lastore q2 dL_register_9 hk7 hb8 (fun M9 hM9 => ?_)
      replace h := ao_letD h hM9
      refine ao_goto 17 dL_register_10 (by decide) ?_
      refine ao_iconst (v := 0) dL_register_17 (by decide) ?_
      cases h
      exact ao_ireturn dL_register_18 rfl rfl ⟨rfl, rfl⟩
theorem me_L_register (n : Nat) (r0 : Nat) (x1 : Int32) (x2 : Int32) (r3 : Nat) (M : ao_M) (ρ : ao_H) {y : Int32 × ao_S} (h : gL_register n r0 x1 x2 r3 M ρ = some y) : ao_le ρ y.2.2 := (mL_register n).1 r0 x1 x2 r3 M ρ y h
set_option maxRecDepth 100000 in
set_option maxHeartbeats 4000000 in
theorem aL_register {Γ : ao_C} (d : Nat) (hd : 9 ≤ d) (n : Nat) (r0 : Nat) (x1 : Int32) (x2 : Int32) (r3 : Nat) (M : ao_M) (ρ : ao_H) {y : Int32 × ao_S} (h : gL_register n r0 x1 x2 r3 M ρ = some y) : ao_A Γ uL_register d (ao_dc ρ y.2.2) (ao_ds ρ y.2.2) [.ref (Γ.2.2.2 + r0), .int x1, .int x2, .ref (Γ.2.2.2 + r3)] (M, ρ) (ao_QI y) := by
  refine ao_ofH (by decide) rfl (ao_cat1 (Nat.le_of_ble_eq_true rfl)) (Nat.le_of_ble_eq_true rfl) ?_
  show ao_W Γ uL_register (ao_rm d (ao_dc ρ y.2.2) (ao_ds ρ y.2.2)) (ao_Q Γ (ao_QI y) (ao_dc ρ y.2.2) (ao_ds ρ y.2.2)) (ao_dc ρ y.2.2) (ao_ds ρ y.2.2) 0 [some (.ref (Γ.2.2.2 + r0)), some (.int x1), some (.int x2), some (.ref (Γ.2.2.2 + r3)), none] [] (M, ρ)
  exact (wL_register d hd _ _ n).1 r0 x1 x2 r3 M ρ y h

abbrev uL_said : ao_Mi := (yL_said, cL_said, 5, (some .int), [(0, 10, 13, 13)])
def fL_said : Nat → Nat → Nat → Int32 → Int32 → Nat → Int32 → Int32 → Nat →  ao_M → ao_H → Option (Int32 × ao_S)
  | 0, _, _, _, _, _, _, _, _, _, _ => none
  | n + 1, pc, r0, x1, x2, r3, s0, s1, q2, M, ρ =>
    if pc = 0 then
      if ρ.2.1 r0 = 20 then
      (gX10_said n r0 x1 x2 M ρ).bind fun p2 =>
      ao_cs p2.1 (fun wx3 => fL_said n 8 r0 x1 x2 r3 wx3 (0 : Int32) r3 p2.2.1 p2.2.2) fun E5 =>
        if E5 = "java/lang/IndexOutOfBoundsException" then
          some ((1 : Int32), p2.2.1, p2.2.2)
        else
        none
      else none
    else if pc = 8 then
      if ρ.2.1 q2 = 3 then
      if ¬ (s1 < 0 ∨ ρ.2.2.1 q2 ≤ s1.toNatClampNeg) then
      ao_let (ao_u M q2 s1.toNatClampNeg s0) fun M9 =>
      some ((0 : Int32), M9, ρ)
      else none
      else none
    else none
def gL_said (n : Nat) (r0 : Nat) (x1 : Int32) (x2 : Int32) (r3 : Nat) (M : ao_M) (ρ : ao_H) : Option (Int32 × ao_S) := fL_said n 0 r0 x1 x2 r3 0 0 0 M ρ
set_option maxRecDepth 100000 in
set_option maxHeartbeats 4000000 in
theorem mL_said : ∀ n : Nat, (∀ (r0 : Nat) (x1 : Int32) (x2 : Int32) (r3 : Nat) (M : ao_M) (ρ : ao_H) (y : Int32 × ao_S), fL_said n 0 r0 x1 x2 r3 0 0 0 M ρ = some y → ao_le ρ y.2.2) ∧ (∀ (r0 : Nat) (x1 : Int32) (x2 : Int32) (r3 : Nat) (s0 : Int32) (s1 : Int32) (q2 : Nat) (M : ao_M) (ρ : ao_H) (y : Int32 × ao_S), fL_said n 8 r0 x1 x2 r3 s0 s1 q2 M ρ = some y → ao_le ρ y.2.2) := by
  intro n
  induction n with
  | zero => exact ⟨fun _ _ _ _ _ _ _ h => ao_no h, fun _ _ _ _ _ _ _ _ _ _ h => ao_no h⟩
  | succ n ih =>
    refine ⟨?_, ?_⟩
    · intro r0 x1 x2 r3 M ρ y h
      replace h := ao_ifT h rfl
      obtain ⟨-, h⟩ := ao_some h
      obtain ⟨p2, hp2, h⟩ := ao_bind h
      refine ao_le_tr (me_X10_said n r0 x1 x2 M ρ hp2) ?_
      refine ao_csM h (fun wx3 h => ?_) (fun _ h => ?_)
      · exact ih.2 r0 x1 x2 r3 wx3 (0 : Int32) r3 p2.2.1 p2.2.2 _ h
      · rcases ao_ifC h with h | h
        · cases h
          exact ao_le_rf _
        · exact ao_no h
    · intro r0 x1 x2 r3 s0 s1 q2 M ρ y h
      replace h := ao_ifF h (by decide)
      replace h := ao_ifT h rfl
      obtain ⟨-, h⟩ := ao_some h
      obtain ⟨-, h⟩ := ao_some h
      replace h := ao_letD h rfl
      generalize (ao_u M q2 s1.toNatClampNeg s0) = M9 at h
      cases h
      exact ao_le_rf _
set_option maxRecDepth 100000 in
set_option maxHeartbeats 4000000 in
theorem wL_said {Γ : ao_C} (d : Nat) (hd : 9 ≤ d) (MC MS : Nat) : ∀ n : Nat, (∀ (r0 : Nat) (x1 : Int32) (x2 : Int32) (r3 : Nat) (M : ao_M) (ρ : ao_H) (y : Int32 × ao_S), fL_said n 0 r0 x1 x2 r3 0 0 0 M ρ = some y → ao_W Γ uL_said (ao_rm d MC MS) (ao_Q Γ (ao_QI y) MC MS) (ao_dc ρ y.2.2) (ao_ds ρ y.2.2) 0 [some (.ref (Γ.2.2.2 + r0)), some (.int x1), some (.int x2), some (.ref (Γ.2.2.2 + r3)), none] [] (M, ρ)) ∧ (∀ (r0 : Nat) (x1 : Int32) (x2 : Int32) (r3 : Nat) (s0 : Int32) (s1 : Int32) (q2 : Nat) (M : ao_M) (ρ : ao_H) (y : Int32 × ao_S), fL_said n 8 r0 x1 x2 r3 s0 s1 q2 M ρ = some y → ao_W Γ uL_said (ao_rm d MC MS) (ao_Q Γ (ao_QI y) MC MS) (ao_dc ρ y.2.2) (ao_ds ρ y.2.2) 8 [some (.ref (Γ.2.2.2 + r0)), some (.int x1), some (.int x2), some (.ref (Γ.2.2.2 + r3)), none] [.int s0, .int s1, .ref (Γ.2.2.2 + q2)] (M, ρ)) := by
  intro n
  induction n with
  | zero => exact ⟨fun _ _ _ _ _ _ _ h => ao_no h, fun _ _ _ _ _ _ _ _ _ _ h => ao_no h⟩
  | succ n ih =>
    refine ⟨?_, ?_⟩
    · intro r0 x1 x2 r3 M ρ y h
      replace h := ao_ifT h rfl
      refine ao_aload_n 3 dL_said_0 rfl rfl ?_
      refine ao_iconst (v := 0) dL_said_1 (by decide) ?_
      refine ao_aload_n 0 dL_said_2 rfl rfl ?_
      refine ao_iload_n 1 dL_said_3 rfl rfl ?_
      refine ao_iload_n 2 dL_said_4 rfl rfl ?_
      obtain ⟨hk1, h⟩ := ao_some h
      obtain ⟨p2, hp2, h⟩ := ao_bind h
      have e9 : ao_le p2.2.2 y.2.2 := by
        refine ao_csM h (fun wx3 h => (mL_said n).2 r0 x1 x2 r3 wx3 (0 : Int32) r3 p2.2.1 p2.2.2 _ h) (fun _ h => ?_)
        rcases ao_ifC h with h | h
        · cases h
          exact ao_le_rf _
        · exact ao_no h
      refine cx_callVi r0 10 (q := (RX10, TX10, 6)) [.int x1, .int x2] (aX10_said (d - 1) (by omega) n r0 x1 x2 M ρ hp2) dL_said_5 lc_L_51 li_X10_said ls_X10_said rfl hk1 rfl rfl (Nat.le_of_ble_eq_true rfl) (ao_hR (by omega) (by decide)) (ao_leC (me_X10_said n r0 x1 x2 M ρ hp2) e9) (ao_leS (me_X10_said n r0 x1 x2 M ρ hp2) e9) (fun wx3 e4 => ?_) (fun E5 e4 => ?_)
      · replace h := ao_csL h e4
        exact ih.2 r0 x1 x2 r3 wx3 (0 : Int32) r3 p2.2.1 p2.2.2 _ h
      · replace h := ao_csR h e4
        by_cases c6 : E5 = "java/lang/IndexOutOfBoundsException"
        · subst c6
          replace h := ao_ifT h rfl
          refine cx_catch "java/lang/IndexOutOfBoundsException" [] (⟨0, 10, 13, 13⟩ : ExceptionTableEntry) [] rfl (fun z hz => nomatch hz) (by decide) (by decide) lcl_L_13 (by decide +kernel) (fun a9 => ?_)
          refine ao_astore 4 (lo' := [some (.ref (Γ.2.2.2 + r0)), some (.int x1), some (.int x2), some (.ref (Γ.2.2.2 + r3)), some (.ref a9)]) dL_said_13 (Nat.le_of_ble_eq_true rfl) rfl ?_
          refine ao_iconst (v := 1) dL_said_15 (by decide) ?_
          cases h
          exact ao_ireturn dL_said_16 rfl rfl ⟨rfl, rfl⟩
        · replace h := ao_ifF h c6
          exact ao_no h
    · intro r0 x1 x2 r3 s0 s1 q2 M ρ y h
      replace h := ao_ifF h (by decide)
      replace h := ao_ifT h rfl
      refine ao_i2l dL_said_8 ?_
      obtain ⟨hk7, h⟩ := ao_some h
      obtain ⟨hb8, h⟩ := ao_some h
      refine an_lastore q2 dL_said_9 hk7 hb8 (fun M9 hM9 => ?_)
      replace h := ao_letD h hM9
      refine ao_goto 17 dL_said_10 (by decide) ?_
      refine ao_iconst (v := 0) dL_said_17 (by decide) ?_
      cases h
      exact ao_ireturn dL_said_18 rfl rfl ⟨rfl, rfl⟩
theorem me_L_said (n : Nat) (r0 : Nat) (x1 : Int32) (x2 : Int32) (r3 : Nat) (M : ao_M) (ρ : ao_H) {y : Int32 × ao_S} (h : gL_said n r0 x1 x2 r3 M ρ = some y) : ao_le ρ y.2.2 := (mL_said n).1 r0 x1 x2 r3 M ρ y h
set_option maxRecDepth 100000 in
set_option maxHeartbeats 4000000 in
theorem aL_said {Γ : ao_C} (d : Nat) (hd : 9 ≤ d) (n : Nat) (r0 : Nat) (x1 : Int32) (x2 : Int32) (r3 : Nat) (M : ao_M) (ρ : ao_H) {y : Int32 × ao_S} (h : gL_said n r0 x1 x2 r3 M ρ = some y) : ao_A Γ uL_said d (ao_dc ρ y.2.2) (ao_ds ρ y.2.2) [.ref (Γ.2.2.2 + r0), .int x1, .int x2, .ref (Γ.2.2.2 + r3)] (M, ρ) (ao_QI y) := by
  refine ao_ofH (by decide) rfl (ao_cat1 (Nat.le_of_ble_eq_true rfl)) (Nat.le_of_ble_eq_true rfl) ?_
  show ao_W Γ uL_said (ao_rm d (ao_dc ρ y.2.2) (ao_ds ρ y.2.2)) (ao_Q Γ (ao_QI y) (ao_dc ρ y.2.2) (ao_ds ρ y.2.2)) (ao_dc ρ y.2.2) (ao_ds ρ y.2.2) 0 [some (.ref (Γ.2.2.2 + r0)), some (.int x1), some (.int x2), some (.ref (Γ.2.2.2 + r3)), none] [] (M, ρ)
  exact (wL_said d hd _ _ n).1 r0 x1 x2 r3 M ρ y h

abbrev uL_order : ao_Mi := (yL_order, cL_order, 4, (some .int), [(0, 9, 12, 13)])
def fL_order : Nat → Nat → Nat → Int32 → Nat → Int32 → Int32 → Nat →  ao_M → ao_H → Option (Int32 × ao_S)
  | 0, _, _, _, _, _, _, _, _, _ => none
  | n + 1, pc, r0, x1, r2, s0, s1, q2, M, ρ =>
    if pc = 0 then
      if ρ.2.1 r0 = 20 then
      (gX10_order n r0 x1 M ρ).bind fun p2 =>
      ao_cs p2.1 (fun wx3 => fL_order n 7 r0 x1 r2 wx3 (0 : Int32) r2 p2.2.1 p2.2.2) fun E5 =>
        if E5 = "java/lang/IndexOutOfBoundsException" then
          some ((1 : Int32), p2.2.1, p2.2.2)
        else
        none
      else none
    else if pc = 7 then
      if ρ.2.1 q2 = 3 then
      if ¬ (s1 < 0 ∨ ρ.2.2.1 q2 ≤ s1.toNatClampNeg) then
      ao_let (ao_u M q2 s1.toNatClampNeg s0) fun M9 =>
      some ((0 : Int32), M9, ρ)
      else none
      else none
    else none
def gL_order (n : Nat) (r0 : Nat) (x1 : Int32) (r2 : Nat) (M : ao_M) (ρ : ao_H) : Option (Int32 × ao_S) := fL_order n 0 r0 x1 r2 0 0 0 M ρ
set_option maxRecDepth 100000 in
set_option maxHeartbeats 4000000 in
theorem mL_order : ∀ n : Nat, (∀ (r0 : Nat) (x1 : Int32) (r2 : Nat) (M : ao_M) (ρ : ao_H) (y : Int32 × ao_S), fL_order n 0 r0 x1 r2 0 0 0 M ρ = some y → ao_le ρ y.2.2) ∧ (∀ (r0 : Nat) (x1 : Int32) (r2 : Nat) (s0 : Int32) (s1 : Int32) (q2 : Nat) (M : ao_M) (ρ : ao_H) (y : Int32 × ao_S), fL_order n 7 r0 x1 r2 s0 s1 q2 M ρ = some y → ao_le ρ y.2.2) := by
  intro n
  induction n with
  | zero => exact ⟨fun _ _ _ _ _ _ h => ao_no h, fun _ _ _ _ _ _ _ _ _ h => ao_no h⟩
  | succ n ih =>
    refine ⟨?_, ?_⟩
    · intro r0 x1 r2 M ρ y h
      replace h := ao_ifT h rfl
      obtain ⟨-, h⟩ := ao_some h
      obtain ⟨p2, hp2, h⟩ := ao_bind h
      refine ao_le_tr (me_X10_order n r0 x1 M ρ hp2) ?_
      refine ao_csM h (fun wx3 h => ?_) (fun _ h => ?_)
      · exact ih.2 r0 x1 r2 wx3 (0 : Int32) r2 p2.2.1 p2.2.2 _ h
      · rcases ao_ifC h with h | h
        · cases h
          exact ao_le_rf _
        · exact ao_no h
    · intro r0 x1 r2 s0 s1 q2 M ρ y h
      replace h := ao_ifF h (by decide)
      replace h := ao_ifT h rfl
      obtain ⟨-, h⟩ := ao_some h
      obtain ⟨-, h⟩ := ao_some h
      replace h := ao_letD h rfl
      generalize (ao_u M q2 s1.toNatClampNeg s0) = M9 at h
      cases h
      exact ao_le_rf _
set_option maxRecDepth 100000 in
set_option maxHeartbeats 4000000 in
theorem wL_order {Γ : ao_C} (d : Nat) (hd : 9 ≤ d) (MC MS : Nat) : ∀ n : Nat, (∀ (r0 : Nat) (x1 : Int32) (r2 : Nat) (M : ao_M) (ρ : ao_H) (y : Int32 × ao_S), fL_order n 0 r0 x1 r2 0 0 0 M ρ = some y → ao_W Γ uL_order (ao_rm d MC MS) (ao_Q Γ (ao_QI y) MC MS) (ao_dc ρ y.2.2) (ao_ds ρ y.2.2) 0 [some (.ref (Γ.2.2.2 + r0)), some (.int x1), some (.ref (Γ.2.2.2 + r2)), none] [] (M, ρ)) ∧ (∀ (r0 : Nat) (x1 : Int32) (r2 : Nat) (s0 : Int32) (s1 : Int32) (q2 : Nat) (M : ao_M) (ρ : ao_H) (y : Int32 × ao_S), fL_order n 7 r0 x1 r2 s0 s1 q2 M ρ = some y → ao_W Γ uL_order (ao_rm d MC MS) (ao_Q Γ (ao_QI y) MC MS) (ao_dc ρ y.2.2) (ao_ds ρ y.2.2) 7 [some (.ref (Γ.2.2.2 + r0)), some (.int x1), some (.ref (Γ.2.2.2 + r2)), none] [.int s0, .int s1, .ref (Γ.2.2.2 + q2)] (M, ρ)) := by
  intro n
  induction n with
  | zero => exact ⟨fun _ _ _ _ _ _ h => ao_no h, fun _ _ _ _ _ _ _ _ _ h => ao_no h⟩
  | succ n ih =>
    refine ⟨?_, ?_⟩
    · intro r0 x1 r2 M ρ y h
      replace h := ao_ifT h rfl
      refine ao_aload_n 2 dL_order_0 rfl rfl ?_
      refine ao_iconst (v := 0) dL_order_1 (by decide) ?_
      refine ao_aload_n 0 dL_order_2 rfl rfl ?_
      refine ao_iload_n 1 dL_order_3 rfl rfl ?_
      obtain ⟨hk1, h⟩ := ao_some h
      obtain ⟨p2, hp2, h⟩ := ao_bind h
      have e9 : ao_le p2.2.2 y.2.2 := by
        refine ao_csM h (fun wx3 h => (mL_order n).2 r0 x1 r2 wx3 (0 : Int32) r2 p2.2.1 p2.2.2 _ h) (fun _ h => ?_)
        rcases ao_ifC h with h | h
        · cases h
          exact ao_le_rf _
        · exact ao_no h
      refine cx_callVi r0 10 (q := (RX10, TX10, 6)) [.int x1] (aX10_order (d - 1) (by omega) n r0 x1 M ρ hp2) dL_order_4 lc_L_58 li_X10_order ls_X10_order rfl hk1 rfl rfl (Nat.le_of_ble_eq_true rfl) (ao_hR (by omega) (by decide)) (ao_leC (me_X10_order n r0 x1 M ρ hp2) e9) (ao_leS (me_X10_order n r0 x1 M ρ hp2) e9) (fun wx3 e4 => ?_) (fun E5 e4 => ?_)
      · replace h := ao_csL h e4
        exact ih.2 r0 x1 r2 wx3 (0 : Int32) r2 p2.2.1 p2.2.2 _ h
      · replace h := ao_csR h e4
        by_cases c6 : E5 = "java/lang/IndexOutOfBoundsException"
        · subst c6
          replace h := ao_ifT h rfl
          refine cx_catch "java/lang/IndexOutOfBoundsException" [] (⟨0, 9, 12, 13⟩ : ExceptionTableEntry) [] rfl (fun z hz => nomatch hz) (by decide) (by decide) lcl_L_13 (by decide +kernel) (fun a9 => ?_)
          refine ao_astore_n 3 (lo' := [some (.ref (Γ.2.2.2 + r0)), some (.int x1), some (.ref (Γ.2.2.2 + r2)), some (.ref a9)]) dL_order_12 rfl (Nat.le_of_ble_eq_true rfl) rfl ?_
          refine ao_iconst (v := 1) dL_order_13 (by decide) ?_
          cases h
          exact ao_ireturn dL_order_14 rfl rfl ⟨rfl, rfl⟩
        · replace h := ao_ifF h c6
          exact ao_no h
    · intro r0 x1 r2 s0 s1 q2 M ρ y h
      replace h := ao_ifF h (by decide)
      replace h := ao_ifT h rfl
      refine ao_i2l dL_order_7 ?_
      obtain ⟨hk7, h⟩ := ao_some h
      obtain ⟨hb8, h⟩ := ao_some h
      refine an_lastore q2 dL_order_8 hk7 hb8 (fun M9 hM9 => ?_)
      replace h := ao_letD h hM9
      refine ao_goto 15 dL_order_9 (by decide) ?_
      refine ao_iconst (v := 0) dL_order_15 (by decide) ?_
      cases h
      exact ao_ireturn dL_order_16 rfl rfl ⟨rfl, rfl⟩
theorem me_L_order (n : Nat) (r0 : Nat) (x1 : Int32) (r2 : Nat) (M : ao_M) (ρ : ao_H) {y : Int32 × ao_S} (h : gL_order n r0 x1 r2 M ρ = some y) : ao_le ρ y.2.2 := (mL_order n).1 r0 x1 r2 M ρ y h
set_option maxRecDepth 100000 in
set_option maxHeartbeats 4000000 in
theorem aL_order {Γ : ao_C} (d : Nat) (hd : 9 ≤ d) (n : Nat) (r0 : Nat) (x1 : Int32) (r2 : Nat) (M : ao_M) (ρ : ao_H) {y : Int32 × ao_S} (h : gL_order n r0 x1 r2 M ρ = some y) : ao_A Γ uL_order d (ao_dc ρ y.2.2) (ao_ds ρ y.2.2) [.ref (Γ.2.2.2 + r0), .int x1, .ref (Γ.2.2.2 + r2)] (M, ρ) (ao_QI y) := by
  refine ao_ofH (by decide) rfl (ao_cat1 (Nat.le_of_ble_eq_true rfl)) (Nat.le_of_ble_eq_true rfl) ?_
  show ao_W Γ uL_order (ao_rm d (ao_dc ρ y.2.2) (ao_ds ρ y.2.2)) (ao_Q Γ (ao_QI y) (ao_dc ρ y.2.2) (ao_ds ρ y.2.2)) (ao_dc ρ y.2.2) (ao_ds ρ y.2.2) 0 [some (.ref (Γ.2.2.2 + r0)), some (.int x1), some (.ref (Γ.2.2.2 + r2)), none] [] (M, ρ)
  exact (wL_order d hd _ _ n).1 r0 x1 r2 M ρ y h

abbrev uL_record : ao_Mi := (yL_record, cL_record, 5, (some .int), [(0, 10, 13, 19), (0, 10, 17, 13)])
def fL_record : Nat → Nat → Nat → Int32 → Int32 → Nat → Int32 → Int32 → Nat →  ao_M → ao_H → Option (Int32 × ao_S)
  | 0, _, _, _, _, _, _, _, _, _, _ => none
  | n + 1, pc, r0, x1, x2, r3, s0, s1, q2, M, ρ =>
    if pc = 0 then
      if ρ.2.1 r0 = 20 then
      (gX10_record n r0 x1 x2 M ρ).bind fun p2 =>
      ao_cs p2.1 (fun wx3 => fL_record n 8 r0 x1 x2 r3 wx3 (0 : Int32) r3 p2.2.1 p2.2.2) fun E5 =>
        if E5 = "java/lang/IllegalArgumentException" then
          some ((1 : Int32), p2.2.1, p2.2.2)
        else
        if E5 = "java/lang/IndexOutOfBoundsException" then
          some ((2 : Int32), p2.2.1, p2.2.2)
        else
        none
      else none
    else if pc = 8 then
      if ρ.2.1 q2 = 3 then
      if ¬ (s1 < 0 ∨ ρ.2.2.1 q2 ≤ s1.toNatClampNeg) then
      ao_let (ao_u M q2 s1.toNatClampNeg s0) fun M10 =>
      some ((0 : Int32), M10, ρ)
      else none
      else none
    else none
def gL_record (n : Nat) (r0 : Nat) (x1 : Int32) (x2 : Int32) (r3 : Nat) (M : ao_M) (ρ : ao_H) : Option (Int32 × ao_S) := fL_record n 0 r0 x1 x2 r3 0 0 0 M ρ
set_option maxRecDepth 100000 in
set_option maxHeartbeats 4000000 in
theorem mL_record : ∀ n : Nat, (∀ (r0 : Nat) (x1 : Int32) (x2 : Int32) (r3 : Nat) (M : ao_M) (ρ : ao_H) (y : Int32 × ao_S), fL_record n 0 r0 x1 x2 r3 0 0 0 M ρ = some y → ao_le ρ y.2.2) ∧ (∀ (r0 : Nat) (x1 : Int32) (x2 : Int32) (r3 : Nat) (s0 : Int32) (s1 : Int32) (q2 : Nat) (M : ao_M) (ρ : ao_H) (y : Int32 × ao_S), fL_record n 8 r0 x1 x2 r3 s0 s1 q2 M ρ = some y → ao_le ρ y.2.2) := by
  intro n
  induction n with
  | zero => exact ⟨fun _ _ _ _ _ _ _ h => ao_no h, fun _ _ _ _ _ _ _ _ _ _ h => ao_no h⟩
  | succ n ih =>
    refine ⟨?_, ?_⟩
    · intro r0 x1 x2 r3 M ρ y h
      replace h := ao_ifT h rfl
      obtain ⟨-, h⟩ := ao_some h
      obtain ⟨p2, hp2, h⟩ := ao_bind h
      refine ao_le_tr (me_X10_record n r0 x1 x2 M ρ hp2) ?_
      refine ao_csM h (fun wx3 h => ?_) (fun _ h => ?_)
      · exact ih.2 r0 x1 x2 r3 wx3 (0 : Int32) r3 p2.2.1 p2.2.2 _ h
      · rcases ao_ifC h with h | h
        · cases h
          exact ao_le_rf _
        · rcases ao_ifC h with h | h
          · cases h
            exact ao_le_rf _
          · exact ao_no h
    · intro r0 x1 x2 r3 s0 s1 q2 M ρ y h
      replace h := ao_ifF h (by decide)
      replace h := ao_ifT h rfl
      obtain ⟨-, h⟩ := ao_some h
      obtain ⟨-, h⟩ := ao_some h
      replace h := ao_letD h rfl
      generalize (ao_u M q2 s1.toNatClampNeg s0) = M10 at h
      cases h
      exact ao_le_rf _
set_option maxRecDepth 100000 in
set_option maxHeartbeats 4000000 in
theorem wL_record {Γ : ao_C} (d : Nat) (hd : 9 ≤ d) (MC MS : Nat) : ∀ n : Nat, (∀ (r0 : Nat) (x1 : Int32) (x2 : Int32) (r3 : Nat) (M : ao_M) (ρ : ao_H) (y : Int32 × ao_S), fL_record n 0 r0 x1 x2 r3 0 0 0 M ρ = some y → ao_W Γ uL_record (ao_rm d MC MS) (ao_Q Γ (ao_QI y) MC MS) (ao_dc ρ y.2.2) (ao_ds ρ y.2.2) 0 [some (.ref (Γ.2.2.2 + r0)), some (.int x1), some (.int x2), some (.ref (Γ.2.2.2 + r3)), none] [] (M, ρ)) ∧ (∀ (r0 : Nat) (x1 : Int32) (x2 : Int32) (r3 : Nat) (s0 : Int32) (s1 : Int32) (q2 : Nat) (M : ao_M) (ρ : ao_H) (y : Int32 × ao_S), fL_record n 8 r0 x1 x2 r3 s0 s1 q2 M ρ = some y → ao_W Γ uL_record (ao_rm d MC MS) (ao_Q Γ (ao_QI y) MC MS) (ao_dc ρ y.2.2) (ao_ds ρ y.2.2) 8 [some (.ref (Γ.2.2.2 + r0)), some (.int x1), some (.int x2), some (.ref (Γ.2.2.2 + r3)), none] [.int s0, .int s1, .ref (Γ.2.2.2 + q2)] (M, ρ)) := by
  intro n
  induction n with
  | zero => exact ⟨fun _ _ _ _ _ _ _ h => ao_no h, fun _ _ _ _ _ _ _ _ _ _ h => ao_no h⟩
  | succ n ih =>
    refine ⟨?_, ?_⟩
    · intro r0 x1 x2 r3 M ρ y h
      replace h := ao_ifT h rfl
      refine ao_aload_n 3 dL_record_0 rfl rfl ?_
      refine ao_iconst (v := 0) dL_record_1 (by decide) ?_
      refine ao_aload_n 0 dL_record_2 rfl rfl ?_
      refine ao_iload_n 1 dL_record_3 rfl rfl ?_
      refine ao_iload_n 2 dL_record_4 rfl rfl ?_
      obtain ⟨hk1, h⟩ := ao_some h
      obtain ⟨p2, hp2, h⟩ := ao_bind h
      have e9 : ao_le p2.2.2 y.2.2 := by
        refine ao_csM h (fun wx3 h => (mL_record n).2 r0 x1 x2 r3 wx3 (0 : Int32) r3 p2.2.1 p2.2.2 _ h) (fun _ h => ?_)
        rcases ao_ifC h with h | h
        · cases h
          exact ao_le_rf _
        · rcases ao_ifC h with h | h
          · cases h
            exact ao_le_rf _
          · exact ao_no h
      refine cx_callVi r0 10 (q := (RX10, TX10, 6)) [.int x1, .int x2] (aX10_record (d - 1) (by omega) n r0 x1 x2 M ρ hp2) dL_record_5 lc_L_61 li_X10_record ls_X10_record rfl hk1 rfl rfl (Nat.le_of_ble_eq_true rfl) (ao_hR (by omega) (by decide)) (ao_leC (me_X10_record n r0 x1 x2 M ρ hp2) e9) (ao_leS (me_X10_record n r0 x1 x2 M ρ hp2) e9) (fun wx3 e4 => ?_) (fun E5 e4 => ?_)
      · replace h := ao_csL h e4
        exact ih.2 r0 x1 x2 r3 wx3 (0 : Int32) r3 p2.2.1 p2.2.2 _ h
      · replace h := ao_csR h e4
        by_cases c6 : E5 = "java/lang/IllegalArgumentException"
        · subst c6
          replace h := ao_ifT h rfl
          refine cx_catch "java/lang/IllegalArgumentException" [] (⟨0, 10, 13, 19⟩ : ExceptionTableEntry) [(⟨0, 10, 17, 13⟩ : ExceptionTableEntry)] rfl (fun z hz => nomatch hz) (by decide) (by decide) lcl_L_19 (by decide +kernel) (fun a9 => ?_)
          refine ao_astore 4 (lo' := [some (.ref (Γ.2.2.2 + r0)), some (.int x1), some (.int x2), some (.ref (Γ.2.2.2 + r3)), some (.ref a9)]) dL_record_13 (Nat.le_of_ble_eq_true rfl) rfl ?_
          refine ao_iconst (v := 1) dL_record_15 (by decide) ?_
          cases h
          exact ao_ireturn dL_record_16 rfl rfl ⟨rfl, rfl⟩
        · replace h := ao_ifF h c6
          by_cases c7 : E5 = "java/lang/IndexOutOfBoundsException"
          · subst c7
            replace h := ao_ifT h rfl
            refine cx_catch "java/lang/IndexOutOfBoundsException" [(⟨0, 10, 13, 19⟩ : ExceptionTableEntry)] (⟨0, 10, 17, 13⟩ : ExceptionTableEntry) [] rfl (by intro z hz; simp only [List.mem_cons, List.mem_nil_iff, or_false] at hz; rcases hz with rfl <;> first | exact Or.inr ⟨by decide, _, lcl_L_19, by decide⟩) (by decide) (by decide) lcl_L_13 (by decide +kernel) (fun a9 => ?_)
            refine ao_astore 4 (lo' := [some (.ref (Γ.2.2.2 + r0)), some (.int x1), some (.int x2), some (.ref (Γ.2.2.2 + r3)), some (.ref a9)]) dL_record_17 (Nat.le_of_ble_eq_true rfl) rfl ?_
            refine ao_iconst (v := 2) dL_record_19 (by decide) ?_
            cases h
            exact ao_ireturn dL_record_20 rfl rfl ⟨rfl, rfl⟩
          · replace h := ao_ifF h c7
            exact ao_no h
    · intro r0 x1 x2 r3 s0 s1 q2 M ρ y h
      replace h := ao_ifF h (by decide)
      replace h := ao_ifT h rfl
      refine ao_i2l dL_record_8 ?_
      obtain ⟨hk8, h⟩ := ao_some h
      obtain ⟨hb9, h⟩ := ao_some h
      refine an_lastore q2 dL_record_9 hk8 hb9 (fun M10 hM10 => ?_)
      replace h := ao_letD h hM10
      refine ao_goto 21 dL_record_10 (by decide) ?_
      refine ao_iconst (v := 0) dL_record_21 (by decide) ?_
      cases h
      exact ao_ireturn dL_record_22 rfl rfl ⟨rfl, rfl⟩
theorem me_L_record (n : Nat) (r0 : Nat) (x1 : Int32) (x2 : Int32) (r3 : Nat) (M : ao_M) (ρ : ao_H) {y : Int32 × ao_S} (h : gL_record n r0 x1 x2 r3 M ρ = some y) : ao_le ρ y.2.2 := (mL_record n).1 r0 x1 x2 r3 M ρ y h
set_option maxRecDepth 100000 in
set_option maxHeartbeats 4000000 in
theorem aL_record {Γ : ao_C} (d : Nat) (hd : 9 ≤ d) (n : Nat) (r0 : Nat) (x1 : Int32) (x2 : Int32) (r3 : Nat) (M : ao_M) (ρ : ao_H) {y : Int32 × ao_S} (h : gL_record n r0 x1 x2 r3 M ρ = some y) : ao_A Γ uL_record d (ao_dc ρ y.2.2) (ao_ds ρ y.2.2) [.ref (Γ.2.2.2 + r0), .int x1, .int x2, .ref (Γ.2.2.2 + r3)] (M, ρ) (ao_QI y) := by
  refine ao_ofH (by decide) rfl (ao_cat1 (Nat.le_of_ble_eq_true rfl)) (Nat.le_of_ble_eq_true rfl) ?_
  show ao_W Γ uL_record (ao_rm d (ao_dc ρ y.2.2) (ao_ds ρ y.2.2)) (ao_Q Γ (ao_QI y) (ao_dc ρ y.2.2) (ao_ds ρ y.2.2)) (ao_dc ρ y.2.2) (ao_ds ρ y.2.2) 0 [some (.ref (Γ.2.2.2 + r0)), some (.int x1), some (.int x2), some (.ref (Γ.2.2.2 + r3)), none] [] (M, ρ)
  exact (wL_record d hd _ _ n).1 r0 x1 x2 r3 M ρ y h

abbrev uX0_tryFrom : ao_Mi := (yX0_tryFrom, cX0_tryFrom, 8, (some .int), [])
def fGT : Nat → Nat → Nat → Nat → Nat → Nat → Int32 → Int32 → Int32 → Int32 → Int32 →  ao_M → ao_H → Option (Int32 × ao_M)
  | 0, _, _, _, _, _, _, _, _, _, _, _, _ => none
  | n + 1, e, pc, r0, r1, r2, x3, x4, x5, x6, s0, M, ρ =>
    if pc = 0 then
      if ρ.2.1 r0 = 10 then
      if (M r0 4) < (20000 : Int32) then
        ao_let (ao_u M r0 4 ((M r0 4) + (1 : Int32))) fun M3 =>
        if x3 < 0 then
          fGT n e 40 r0 r1 r2 x3 x4 0 0 0 M3 ρ
        else
          if ρ.2.1 r1 = 16 then
          if (M3 r1 9) ≤ x3 then
            fGT n e 40 r0 r1 r2 x3 x4 0 0 0 M3 ρ
          else
            if x3 < (14 : Int32) then
              fGT n e 58 r0 r1 r2 x3 x4 (0 : Int32) 0 0 M3 ρ
            else
              fGT n e 40 r0 r1 r2 x3 x4 0 0 0 M3 ρ
          else none
      else
        some ((-1 : Int32), M)
      else none
    else if pc = 40 then
      if ρ.2.1 r0 = 10 then
      (gX0_isAsItIs n r0 r2 x3 M ρ).bind fun p9 =>
      if p9.1 = 0 then
        some ((0 : Int32), p9.2)
      else
        some ((1 : Int32), p9.2)
      else none
    else if pc = 58 then
      if ρ.2.1 r1 = 16 then
      if (M r1 9) ≤ x5 then
        some ((0 : Int32), M)
      else
        if (14 : Int32) ≤ x5 then
          some ((0 : Int32), M)
        else
          if ((x4 >>> (x5 &&& 31)) &&& (1 : Int32)) = 0 then
            if ρ.2.1 r0 = 10 then
            (ρ.1 r0 3).bind fun j16 =>
            if ρ.2.1 j16 = 0 then
            if ¬ (x5 < 0 ∨ ρ.2.2.1 j16 ≤ x5.toNatClampNeg) then
            if ((M j16 x5.toNatClampNeg) &&& (x4 ^^^ (-1 : Int32))) = 0 then
              fGT n e 104 r0 r1 r2 x3 x4 x5 0 (1 : Int32) M ρ
            else
              fGT n e 103 r0 r1 r2 x3 x4 x5 0 0 M ρ
            else none
            else none
            else none
          else
            fGT n e 103 r0 r1 r2 x3 x4 x5 0 0 M ρ
      else none
    else if pc = 103 then
      fGT n e 104 r0 r1 r2 x3 x4 x5 0 (0 : Int32) M ρ
    else if pc = 104 then
      if s0 = 0 then
        fGT n e 195 r0 r1 r2 x3 x4 x5 s0 0 M ρ
      else
        if ρ.2.1 r0 = 10 then
        (ρ.1 r0 2).bind fun j22 =>
        if ρ.2.1 j22 = 6 then
        if ¬ (x3 < 0 ∨ ρ.2.2.1 j22 ≤ x3.toNatClampNeg) then
        (ρ.1 j22 x3.toNatClampNeg).bind fun j25 =>
        if ρ.2.1 r1 = 16 then
        (gX6_readsAreRight n r1 x5 j25 M ρ).bind fun p27 =>
        if p27.1 = 0 then
          fGT n e 195 r0 r1 r2 x3 x4 x5 s0 0 p27.2 ρ
        else
          (ρ.1 r0 0).bind fun j29 =>
          if ρ.2.1 j29 = 0 then
          if ¬ (x3 < 0 ∨ ρ.2.2.1 j29 ≤ x3.toNatClampNeg) then
          ao_let (ao_u p27.2 j29 x3.toNatClampNeg x5) fun M32 =>
          if ¬ ((x3 + (1 : Int32)) < 0 ∨ ρ.2.2.1 j22 ≤ (x3 + (1 : Int32)).toNatClampNeg) then
          (ρ.1 j22 ((x3 + (1 : Int32)).toNatClampNeg)).bind fun j34 =>
          if ρ.2.1 j25 = 0 then
          if ρ.2.1 j34 = 0 then
          if ¬ (0 : Int32) < 0 ∧ ¬ (0 : Int32) < 0 ∧ ¬ (26 : Int32) < 0 ∧ (0 : Int32).toNatClampNeg + (26 : Int32).toNatClampNeg ≤ ρ.2.2.1 j25 ∧ (0 : Int32).toNatClampNeg + (26 : Int32).toNatClampNeg ≤ ρ.2.2.1 j34 then
          ao_let (ao_cp M32 j25 j34 (0 : Int32).toNatClampNeg (0 : Int32).toNatClampNeg (26 : Int32).toNatClampNeg) fun M38 =>
          (gX6_apply n r1 x5 j34 M38 ρ).bind fun p39 =>
          if 0 < e then
          (fGT n (e - 1) 0 r0 r1 r2 (x3 + (1 : Int32)) (x4 ||| ((1 : Int32) <<< (x5 &&& 31))) 0 0 0 p39 ρ).bind fun p40 =>
          ao_let p40.1 fun v42 =>
          if v42 = 0 then
            fGT n e 195 r0 r1 r2 x3 x4 x5 s0 0 p40.2 ρ
          else
            some (v42, p40.2)
          else none
          else none
          else none
          else none
          else none
          else none
          else none
        else none
        else none
        else none
        else none
    else if pc = 195 then
      ao_let (x5 + (1 : Int32)) fun v44 =>
      fGT n e 58 r0 r1 r2 x3 x4 v44 0 0 M ρ
    else none
set_option maxRecDepth 100000 in
set_option maxHeartbeats 4000000 in
theorem wGT {Γ : ao_C} {ρ : ao_H} : ∀ n : Nat, (∀ (e d : Nat) (hd : 1 + e ≤ d) (r0 : Nat) (r1 : Nat) (r2 : Nat) (x3 : Int32) (x4 : Int32) (M : ao_M) (y : Int32 × ao_M), fGT n e 0 r0 r1 r2 x3 x4 0 0 0 M ρ = some y → ao_W Γ uX0_tryFrom (ao_rm d 0 0) (ao_Q Γ (ao_PI ρ y) 0 0) 0 0 0 [some (.ref (Γ.2.2.2 + r0)), some (.ref (Γ.2.2.2 + r1)), some (.ref (Γ.2.2.2 + r2)), some (.int x3), some (.int x4), none, none, none] [] (M, ρ)) ∧ (∀ (e d : Nat) (hd : 1 + e ≤ d) (r0 : Nat) (r1 : Nat) (r2 : Nat) (x3 : Int32) (x4 : Int32) (M : ao_M) (y : Int32 × ao_M), fGT n e 40 r0 r1 r2 x3 x4 0 0 0 M ρ = some y → ao_W Γ uX0_tryFrom (ao_rm d 0 0) (ao_Q Γ (ao_PI ρ y) 0 0) 0 0 40 [some (.ref (Γ.2.2.2 + r0)), some (.ref (Γ.2.2.2 + r1)), some (.ref (Γ.2.2.2 + r2)), some (.int x3), some (.int x4), none, none, none] [] (M, ρ)) ∧ (∀ (e d : Nat) (hd : 1 + e ≤ d) (r0 : Nat) (r1 : Nat) (r2 : Nat) (x3 : Int32) (x4 : Int32) (x5 : Int32) (M : ao_M) (y : Int32 × ao_M), fGT n e 58 r0 r1 r2 x3 x4 x5 0 0 M ρ = some y → ao_W Γ uX0_tryFrom (ao_rm d 0 0) (ao_Q Γ (ao_PI ρ y) 0 0) 0 0 58 [some (.ref (Γ.2.2.2 + r0)), some (.ref (Γ.2.2.2 + r1)), some (.ref (Γ.2.2.2 + r2)), some (.int x3), some (.int x4), some (.int x5), none, none] [] (M, ρ)) ∧ (∀ (e d : Nat) (hd : 1 + e ≤ d) (r0 : Nat) (r1 : Nat) (r2 : Nat) (x3 : Int32) (x4 : Int32) (x5 : Int32) (M : ao_M) (y : Int32 × ao_M), fGT n e 103 r0 r1 r2 x3 x4 x5 0 0 M ρ = some y → ao_W Γ uX0_tryFrom (ao_rm d 0 0) (ao_Q Γ (ao_PI ρ y) 0 0) 0 0 103 [some (.ref (Γ.2.2.2 + r0)), some (.ref (Γ.2.2.2 + r1)), some (.ref (Γ.2.2.2 + r2)), some (.int x3), some (.int x4), some (.int x5), none, none] [] (M, ρ)) ∧ (∀ (e d : Nat) (hd : 1 + e ≤ d) (r0 : Nat) (r1 : Nat) (r2 : Nat) (x3 : Int32) (x4 : Int32) (x5 : Int32) (s0 : Int32) (M : ao_M) (y : Int32 × ao_M), fGT n e 104 r0 r1 r2 x3 x4 x5 0 s0 M ρ = some y → ao_W Γ uX0_tryFrom (ao_rm d 0 0) (ao_Q Γ (ao_PI ρ y) 0 0) 0 0 104 [some (.ref (Γ.2.2.2 + r0)), some (.ref (Γ.2.2.2 + r1)), some (.ref (Γ.2.2.2 + r2)), some (.int x3), some (.int x4), some (.int x5), none, none] [.int s0] (M, ρ)) ∧ (∀ (e d : Nat) (hd : 1 + e ≤ d) (r0 : Nat) (r1 : Nat) (r2 : Nat) (x3 : Int32) (x4 : Int32) (x5 : Int32) (x6 : Int32) (M : ao_M) (y : Int32 × ao_M), fGT n e 195 r0 r1 r2 x3 x4 x5 x6 0 M ρ = some y → ao_W Γ uX0_tryFrom (ao_rm d 0 0) (ao_Q Γ (ao_PI ρ y) 0 0) 0 0 195 [some (.ref (Γ.2.2.2 + r0)), some (.ref (Γ.2.2.2 + r1)), some (.ref (Γ.2.2.2 + r2)), some (.int x3), some (.int x4), some (.int x5), some (.int x6), none] [] (M, ρ)) := by
  intro n
  induction n with
  | zero => exact ⟨fun _ _ _ _ _ _ _ _ _ _ h => ao_no h, fun _ _ _ _ _ _ _ _ _ _ h => ao_no h, fun _ _ _ _ _ _ _ _ _ _ _ h => ao_no h, fun _ _ _ _ _ _ _ _ _ _ _ h => ao_no h, fun _ _ _ _ _ _ _ _ _ _ _ _ h => ao_no h, fun _ _ _ _ _ _ _ _ _ _ _ _ h => ao_no h⟩
  | succ n ih =>
    refine ⟨?_, ?_, ?_, ?_, ?_, ?_⟩
    · intro e d hd r0 r1 r2 x3 x4 M y h
      replace h := ao_ifT h rfl
      refine ao_aload_n 0 dX0_tryFrom_0 rfl rfl ?_
      obtain ⟨hk1, h⟩ := ao_some h
      refine an_getI r0 0 4 (q := (RX0, TX0, 5)) dX0_tryFrom_1 rfl hk1 (Nat.le_of_ble_eq_true rfl) rfl lf_X0_47 ?_
      refine ao_sipush (v := 20000) dX0_tryFrom_4 (by decide) ?_
      refine ao_icmp_lt 12 dX0_tryFrom_7 (by decide) (fun c2 => ?_) (fun c2 => ?_)
      · replace h := ao_ifT h c2
        refine ao_aload_n 0 dX0_tryFrom_12 rfl rfl ?_
        refine ao_dup dX0_tryFrom_13 rfl ?_
        refine an_getI r0 0 4 (q := (RX0, TX0, 5)) dX0_tryFrom_14 rfl hk1 (Nat.le_of_ble_eq_true rfl) rfl lf_X0_47 ?_
        refine ao_iconst (v := 1) dX0_tryFrom_17 (by decide) ?_
        refine ao_iadd dX0_tryFrom_18 ?_
        refine an_putI r0 0 4 (q := (RX0, TX0, 5)) dX0_tryFrom_19 rfl hk1 (Nat.le_of_ble_eq_true rfl) lf_X0_47 rfl rfl rfl rfl (fun M3 hM3 => ?_)
        replace h := ao_letD h hM3
        refine ao_iload_n 3 dX0_tryFrom_22 rfl rfl ?_
        refine ao_if_lt 40 dX0_tryFrom_23 (by decide) (fun c4 => ?_) (fun c4 => ?_)
        · replace h := ao_ifT h c4
          exact ih.2.1 e d hd r0 r1 r2 x3 x4 M3 _ h
        · replace h := ao_ifF h c4
          refine ao_iload_n 3 dX0_tryFrom_26 rfl rfl ?_
          refine ao_aload_n 1 dX0_tryFrom_27 rfl rfl ?_
          obtain ⟨hk5, h⟩ := ao_some h
          refine an_getI r1 6 9 (q := (RX6, TX6, 11)) dX0_tryFrom_28 rfl hk5 (Nat.le_of_ble_eq_true rfl) rfl lf_X0_27 ?_
          refine ao_icmp_ge 40 dX0_tryFrom_31 (by decide) (fun c6 => ?_) (fun c6 => ?_)
          · replace h := ao_ifT h c6
            exact ih.2.1 e d hd r0 r1 r2 x3 x4 M3 _ h
          · replace h := ao_ifF h c6
            refine ao_iload_n 3 dX0_tryFrom_34 rfl rfl ?_
            refine ao_bipush (v := 14) dX0_tryFrom_35 (by decide) ?_
            refine ao_icmp_lt 55 dX0_tryFrom_37 (by decide) (fun c7 => ?_) (fun c7 => ?_)
            · replace h := ao_ifT h c7
              refine ao_iconst (v := 0) dX0_tryFrom_55 (by decide) ?_
              refine ao_istore 5 (lo' := [some (.ref (Γ.2.2.2 + r0)), some (.ref (Γ.2.2.2 + r1)), some (.ref (Γ.2.2.2 + r2)), some (.int x3), some (.int x4), some (.int (0 : Int32)), none, none]) dX0_tryFrom_56 (Nat.le_of_ble_eq_true rfl) rfl ?_
              exact ih.2.2.1 e d hd r0 r1 r2 x3 x4 (0 : Int32) M3 _ h
            · replace h := ao_ifF h c7
              exact ih.2.1 e d hd r0 r1 r2 x3 x4 M3 _ h
      · replace h := ao_ifF h c2
        refine ao_iconst (v := (-1)) dX0_tryFrom_10 (by decide) ?_
        cases h
        exact ao_ireturn dX0_tryFrom_11 rfl rfl ⟨rfl, rfl⟩
    · intro e d hd r0 r1 r2 x3 x4 M y h
      replace h := ao_ifF h (by decide)
      replace h := ao_ifT h rfl
      refine ao_aload_n 0 dX0_tryFrom_40 rfl rfl ?_
      refine ao_aload_n 2 dX0_tryFrom_41 rfl rfl ?_
      refine ao_iload_n 3 dX0_tryFrom_42 rfl rfl ?_
      obtain ⟨hk8, h⟩ := ao_some h
      obtain ⟨p9, hp9, h⟩ := ao_bind h
      refine an_callVi r0 0 (q := (RX0, TX0, 5)) [.ref (Γ.2.2.2 + r2), .int x3] (aX0_isAsItIs (d - 1) (by omega) _ r0 r2 x3 M ρ hp9) dX0_tryFrom_43 lc_X0_58 li_X0_isAsItIs ls_X0_isAsItIs rfl hk8 rfl rfl (Nat.le_of_ble_eq_true rfl) (ao_hR (by omega) (by decide)) ?_
      refine ao_if_eq 53 dX0_tryFrom_46 (by decide) (fun c10 => ?_) (fun c10 => ?_)
      · replace h := ao_ifT h c10
        refine ao_iconst (v := 0) dX0_tryFrom_53 (by decide) ?_
        cases h
        exact ao_ireturn dX0_tryFrom_54 rfl rfl ⟨rfl, rfl⟩
      · replace h := ao_ifF h c10
        refine ao_iconst (v := 1) dX0_tryFrom_49 (by decide) ?_
        refine ao_goto 54 dX0_tryFrom_50 (by decide) ?_
        cases h
        exact ao_ireturn dX0_tryFrom_54 rfl rfl ⟨rfl, rfl⟩
    · intro e d hd r0 r1 r2 x3 x4 x5 M y h
      replace h := ao_ifF h (by decide)
      replace h := ao_ifF h (by decide)
      replace h := ao_ifT h rfl
      refine ao_iload 5 dX0_tryFrom_58 rfl ?_
      refine ao_aload_n 1 dX0_tryFrom_60 rfl rfl ?_
      obtain ⟨hk11, h⟩ := ao_some h
      refine an_getI r1 6 9 (q := (RX6, TX6, 11)) dX0_tryFrom_61 rfl hk11 (Nat.le_of_ble_eq_true rfl) rfl lf_X0_27 ?_
      refine ao_icmp_ge 201 dX0_tryFrom_64 (by decide) (fun c12 => ?_) (fun c12 => ?_)
      · replace h := ao_ifT h c12
        refine ao_iconst (v := 0) dX0_tryFrom_201 (by decide) ?_
        cases h
        exact ao_ireturn dX0_tryFrom_202 rfl rfl ⟨rfl, rfl⟩
      · replace h := ao_ifF h c12
        refine ao_iload 5 dX0_tryFrom_67 rfl ?_
        refine ao_bipush (v := 14) dX0_tryFrom_69 (by decide) ?_
        refine ao_icmp_ge 201 dX0_tryFrom_71 (by decide) (fun c13 => ?_) (fun c13 => ?_)
        · replace h := ao_ifT h c13
          refine ao_iconst (v := 0) dX0_tryFrom_201 (by decide) ?_
          cases h
          exact ao_ireturn dX0_tryFrom_202 rfl rfl ⟨rfl, rfl⟩
        · replace h := ao_ifF h c13
          refine ao_iload 4 dX0_tryFrom_74 rfl ?_
          refine ao_iload 5 dX0_tryFrom_76 rfl ?_
          refine ao_ishr dX0_tryFrom_78 ?_
          refine ao_iconst (v := 1) dX0_tryFrom_79 (by decide) ?_
          refine ao_iand dX0_tryFrom_80 ?_
          refine ao_if_ne 103 dX0_tryFrom_81 (by decide) (fun c14 => ?_) (fun c14 => ?_)
          · replace h := ao_ifF h c14
            exact ih.2.2.2.1 e d hd r0 r1 r2 x3 x4 x5 M _ h
          · replace h := ao_ifT h c14
            refine ao_aload_n 0 dX0_tryFrom_84 rfl rfl ?_
            obtain ⟨hk15, h⟩ := ao_some h
            obtain ⟨j16, hj16, h⟩ := ao_bind h
            refine an_getR r0 0 3 (q := (RX0, TX0, 5)) dX0_tryFrom_85 rfl hk15 (Nat.le_of_ble_eq_true rfl) rfl lf_X0_20 hj16 ?_
            refine ao_iload 5 dX0_tryFrom_88 rfl ?_
            obtain ⟨hk17, h⟩ := ao_some h
            obtain ⟨hb18, h⟩ := ao_some h
            refine an_iaload j16 dX0_tryFrom_90 hk17 hb18 ?_
            refine ao_iload 4 dX0_tryFrom_91 rfl ?_
            refine ao_iconst (v := (-1)) dX0_tryFrom_93 (by decide) ?_
            refine ao_ixor dX0_tryFrom_94 ?_
            refine ao_iand dX0_tryFrom_95 ?_
            refine ao_if_ne 103 dX0_tryFrom_96 (by decide) (fun c19 => ?_) (fun c19 => ?_)
            · replace h := ao_ifF h c19
              exact ih.2.2.2.1 e d hd r0 r1 r2 x3 x4 x5 M _ h
            · replace h := ao_ifT h c19
              refine ao_iconst (v := 1) dX0_tryFrom_99 (by decide) ?_
              refine ao_goto 104 dX0_tryFrom_100 (by decide) ?_
              exact ih.2.2.2.2.1 e d hd r0 r1 r2 x3 x4 x5 (1 : Int32) M _ h
    · intro e d hd r0 r1 r2 x3 x4 x5 M y h
      replace h := ao_ifF h (by decide)
      replace h := ao_ifF h (by decide)
      replace h := ao_ifF h (by decide)
      replace h := ao_ifT h rfl
      refine ao_iconst (v := 0) dX0_tryFrom_103 (by decide) ?_
      exact ih.2.2.2.2.1 e d hd r0 r1 r2 x3 x4 x5 (0 : Int32) M _ h
    · intro e d hd r0 r1 r2 x3 x4 x5 s0 M y h
      replace h := ao_ifF h (by decide)
      replace h := ao_ifF h (by decide)
      replace h := ao_ifF h (by decide)
      replace h := ao_ifF h (by decide)
      replace h := ao_ifT h rfl
      refine ao_istore 6 (lo' := [some (.ref (Γ.2.2.2 + r0)), some (.ref (Γ.2.2.2 + r1)), some (.ref (Γ.2.2.2 + r2)), some (.int x3), some (.int x4), some (.int x5), some (.int s0), none]) dX0_tryFrom_104 (Nat.le_of_ble_eq_true rfl) rfl ?_
      refine ao_iload 6 dX0_tryFrom_106 rfl ?_
      refine ao_if_eq 195 dX0_tryFrom_108 (by decide) (fun c20 => ?_) (fun c20 => ?_)
      · replace h := ao_ifT h c20
        exact ih.2.2.2.2.2 e d hd r0 r1 r2 x3 x4 x5 s0 M _ h
      · replace h := ao_ifF h c20
        refine ao_aload_n 1 dX0_tryFrom_111 rfl rfl ?_
        refine ao_iload 5 dX0_tryFrom_112 rfl ?_
        refine ao_aload_n 0 dX0_tryFrom_114 rfl rfl ?_
        obtain ⟨hk21, h⟩ := ao_some h
        obtain ⟨j22, hj22, h⟩ := ao_bind h
        refine an_getR r0 0 2 (q := (RX0, TX0, 5)) dX0_tryFrom_115 rfl hk21 (Nat.le_of_ble_eq_true rfl) rfl lf_X0_17 hj22 ?_
        refine ao_iload_n 3 dX0_tryFrom_118 rfl rfl ?_
        obtain ⟨hk23, h⟩ := ao_some h
        obtain ⟨hb24, h⟩ := ao_some h
        obtain ⟨j25, hj25, h⟩ := ao_bind h
        refine an_aaload j22 6 dX0_tryFrom_119 hk23 (by decide) hb24 hj25 ?_
        obtain ⟨hk26, h⟩ := ao_some h
        obtain ⟨p27, hp27, h⟩ := ao_bind h
        refine an_callVi r1 6 (q := (RX6, TX6, 11)) [.int x5, .ref (Γ.2.2.2 + j25)] (aX6_readsAreRight (d - 1) (by omega) _ r1 x5 j25 M ρ hp27) dX0_tryFrom_120 lc_X0_62 li_X6_readsAreRight ls_X6_readsAreRight rfl hk26 rfl rfl (Nat.le_of_ble_eq_true rfl) (ao_hR (by omega) (by decide)) ?_
        refine ao_if_eq 195 dX0_tryFrom_123 (by decide) (fun c28 => ?_) (fun c28 => ?_)
        · replace h := ao_ifT h c28
          exact ih.2.2.2.2.2 e d hd r0 r1 r2 x3 x4 x5 s0 p27.2 _ h
        · replace h := ao_ifF h c28
          refine ao_aload_n 0 dX0_tryFrom_126 rfl rfl ?_
          obtain ⟨j29, hj29, h⟩ := ao_bind h
          refine an_getR r0 0 0 (q := (RX0, TX0, 5)) dX0_tryFrom_127 rfl hk21 (Nat.le_of_ble_eq_true rfl) rfl lf_X0_9 hj29 ?_
          refine ao_iload_n 3 dX0_tryFrom_130 rfl rfl ?_
          refine ao_iload 5 dX0_tryFrom_131 rfl ?_
          obtain ⟨hk30, h⟩ := ao_some h
          obtain ⟨hb31, h⟩ := ao_some h
          refine an_iastore j29 dX0_tryFrom_133 hk30 hb31 (fun M32 hM32 => ?_)
          replace h := ao_letD h hM32
          refine ao_aload_n 0 dX0_tryFrom_134 rfl rfl ?_
          refine an_getR r0 0 2 (q := (RX0, TX0, 5)) dX0_tryFrom_135 rfl hk21 (Nat.le_of_ble_eq_true rfl) rfl lf_X0_17 hj22 ?_
          refine ao_iload_n 3 dX0_tryFrom_138 rfl rfl ?_
          refine an_aaload j22 6 dX0_tryFrom_139 hk23 (by decide) hb24 hj25 ?_
          refine ao_iconst (v := 0) dX0_tryFrom_140 (by decide) ?_
          refine ao_aload_n 0 dX0_tryFrom_141 rfl rfl ?_
          refine an_getR r0 0 2 (q := (RX0, TX0, 5)) dX0_tryFrom_142 rfl hk21 (Nat.le_of_ble_eq_true rfl) rfl lf_X0_17 hj22 ?_
          refine ao_iload_n 3 dX0_tryFrom_145 rfl rfl ?_
          refine ao_iconst (v := 1) dX0_tryFrom_146 (by decide) ?_
          refine ao_iadd dX0_tryFrom_147 ?_
          obtain ⟨hb33, h⟩ := ao_some h
          obtain ⟨j34, hj34, h⟩ := ao_bind h
          refine an_aaload j22 6 dX0_tryFrom_148 hk23 (by decide) hb33 hj34 ?_
          refine ao_iconst (v := 0) dX0_tryFrom_149 (by decide) ?_
          refine ao_bipush (v := 26) dX0_tryFrom_150 (by decide) ?_
          obtain ⟨hk35, h⟩ := ao_some h
          obtain ⟨hk36, h⟩ := ao_some h
          obtain ⟨hc37, h⟩ := ao_some h
          refine an_copy j25 j34 dX0_tryFrom_152 lcp_X0_41 hk35 hk36 hc37 (Nat.le_of_ble_eq_true rfl) (ao_cpR (by omega)) (fun M38 hM38 => ?_)
          replace h := ao_letD h hM38
          refine ao_aload_n 1 dX0_tryFrom_155 rfl rfl ?_
          refine ao_iload 5 dX0_tryFrom_156 rfl ?_
          refine ao_aload_n 0 dX0_tryFrom_158 rfl rfl ?_
          refine an_getR r0 0 2 (q := (RX0, TX0, 5)) dX0_tryFrom_159 rfl hk21 (Nat.le_of_ble_eq_true rfl) rfl lf_X0_17 hj22 ?_
          refine ao_iload_n 3 dX0_tryFrom_162 rfl rfl ?_
          refine ao_iconst (v := 1) dX0_tryFrom_163 (by decide) ?_
          refine ao_iadd dX0_tryFrom_164 ?_
          refine an_aaload j22 6 dX0_tryFrom_165 hk23 (by decide) hb33 hj34 ?_
          obtain ⟨p39, hp39, h⟩ := ao_bind h
          refine an_callVv r1 6 (q := (RX6, TX6, 11)) [.int x5, .ref (Γ.2.2.2 + j34)] (aX6_apply (d - 1) (by omega) _ r1 x5 j34 M38 ρ hp39) dX0_tryFrom_166 lc_X0_66 li_X6_apply ls_X6_apply rfl hk26 rfl rfl (Nat.le_of_ble_eq_true rfl) (ao_hR (by omega) (by decide)) ?_
          refine ao_aload_n 0 dX0_tryFrom_169 rfl rfl ?_
          refine ao_aload_n 1 dX0_tryFrom_170 rfl rfl ?_
          refine ao_aload_n 2 dX0_tryFrom_171 rfl rfl ?_
          refine ao_iload_n 3 dX0_tryFrom_172 rfl rfl ?_
          refine ao_iconst (v := 1) dX0_tryFrom_173 (by decide) ?_
          refine ao_iadd dX0_tryFrom_174 ?_
          refine ao_iload 4 dX0_tryFrom_175 rfl ?_
          refine ao_iconst (v := 1) dX0_tryFrom_177 (by decide) ?_
          refine ao_iload 5 dX0_tryFrom_178 rfl ?_
          refine ao_ishl dX0_tryFrom_180 ?_
          refine ao_ior dX0_tryFrom_181 ?_
          obtain ⟨he41, h⟩ := ao_some h
          obtain ⟨p40, hp40, h⟩ := ao_bind h
          have hAp40 : ao_A Γ uX0_tryFrom (d - 1) 0 0 [.ref (Γ.2.2.2 + r0), .ref (Γ.2.2.2 + r1), .ref (Γ.2.2.2 + r2), .int (x3 + (1 : Int32)), .int (x4 ||| ((1 : Int32) <<< (x5 &&& 31)))] (p39, ρ) (ao_PI ρ p40) := by
            refine ao_of (by decide) (ao_cat1 (Nat.le_of_ble_eq_true rfl)) (Nat.le_of_ble_eq_true rfl) ?_
            show ao_W Γ uX0_tryFrom (ao_rm (d - 1) 0 0) (ao_Q Γ (ao_PI ρ p40) 0 0) 0 0 0 [some (.ref (Γ.2.2.2 + r0)), some (.ref (Γ.2.2.2 + r1)), some (.ref (Γ.2.2.2 + r2)), some (.int (x3 + (1 : Int32))), some (.int (x4 ||| ((1 : Int32) <<< (x5 &&& 31)))), none, none, none] [] (p39, ρ)
            exact ih.1 (e - 1) (d - 1) (by omega) r0 r1 r2 (x3 + (1 : Int32)) (x4 ||| ((1 : Int32) <<< (x5 &&& 31))) p39 _ hp40
          refine an_callVi r0 0 (q := (RX0, TX0, 5)) [.ref (Γ.2.2.2 + r1), .ref (Γ.2.2.2 + r2), .int (x3 + (1 : Int32)), .int (x4 ||| ((1 : Int32) <<< (x5 &&& 31)))] hAp40 dX0_tryFrom_182 lc_X0_50 li_X0_tryFrom ls_X0_tryFrom rfl hk21 rfl rfl (Nat.le_of_ble_eq_true rfl) (ao_hR (by omega) (by decide)) ?_
          refine an_topi (fun v42 hv42 => ?_)
          replace h := ao_letD h hv42
          refine ao_istore 7 (lo' := [some (.ref (Γ.2.2.2 + r0)), some (.ref (Γ.2.2.2 + r1)), some (.ref (Γ.2.2.2 + r2)), some (.int x3), some (.int x4), some (.int x5), some (.int s0), some (.int v42)]) dX0_tryFrom_185 (Nat.le_of_ble_eq_true rfl) rfl ?_
          refine ao_iload 7 dX0_tryFrom_187 rfl ?_
          refine ao_if_eq 195 dX0_tryFrom_189 (by decide) (fun c43 => ?_) (fun c43 => ?_)
          · replace h := ao_ifT h c43
            refine ao_loForget (lo' := [some (.ref (Γ.2.2.2 + r0)), some (.ref (Γ.2.2.2 + r1)), some (.ref (Γ.2.2.2 + r2)), some (.int x3), some (.int x4), some (.int x5), some (.int s0), none]) (ao_fgS (ao_fgS (ao_fgS (ao_fgS (ao_fgS (ao_fgS (ao_fgS (ao_fgN ao_fgZ)))))))) ?_
            exact ih.2.2.2.2.2 e d hd r0 r1 r2 x3 x4 x5 s0 p40.2 _ h
          · replace h := ao_ifF h c43
            refine ao_iload 7 dX0_tryFrom_192 rfl ?_
            cases h
            exact ao_ireturn dX0_tryFrom_194 rfl rfl ⟨rfl, rfl⟩
    · intro e d hd r0 r1 r2 x3 x4 x5 x6 M y h
      replace h := ao_ifF h (by decide)
      replace h := ao_ifF h (by decide)
      replace h := ao_ifF h (by decide)
      replace h := ao_ifF h (by decide)
      replace h := ao_ifF h (by decide)
      replace h := ao_ifT h rfl
      obtain ⟨v44, hv44⟩ : ∃ z : Int32, z = x5 + (1 : Int32) := ⟨_, rfl⟩
      replace h := ao_letD h hv44
      refine ao_iinc 5 (v := v44) (lo' := [some (.ref (Γ.2.2.2 + r0)), some (.ref (Γ.2.2.2 + r1)), some (.ref (Γ.2.2.2 + r2)), some (.int x3), some (.int x4), some (.int v44), some (.int x6), none]) dX0_tryFrom_195 rfl (by rw [hv44]; rfl) (Nat.le_of_ble_eq_true rfl) rfl ?_
      refine ao_goto 58 dX0_tryFrom_198 (by decide) ?_
      refine ao_loForget (lo' := [some (.ref (Γ.2.2.2 + r0)), some (.ref (Γ.2.2.2 + r1)), some (.ref (Γ.2.2.2 + r2)), some (.int x3), some (.int x4), some (.int v44), none, none]) (ao_fgS (ao_fgS (ao_fgS (ao_fgS (ao_fgS (ao_fgS (ao_fgN (ao_fgN ao_fgZ)))))))) ?_
      exact ih.2.2.1 e d hd r0 r1 r2 x3 x4 v44 M _ h
def gX0_tryFrom (n : Nat) (r0 : Nat) (r1 : Nat) (r2 : Nat) (x3 : Int32) (x4 : Int32) (M : ao_M) (ρ : ao_H) : Option (Int32 × ao_M) := fGT n 64 0 r0 r1 r2 x3 x4 0 0 0 M ρ
set_option maxRecDepth 100000 in
set_option maxHeartbeats 4000000 in
theorem aX0_tryFrom {Γ : ao_C} (d : Nat) (hd : 65 ≤ d) (n : Nat) (r0 : Nat) (r1 : Nat) (r2 : Nat) (x3 : Int32) (x4 : Int32) (M : ao_M) (ρ : ao_H) {y : Int32 × ao_M} (h : gX0_tryFrom n r0 r1 r2 x3 x4 M ρ = some y) : ao_A Γ uX0_tryFrom d 0 0 [.ref (Γ.2.2.2 + r0), .ref (Γ.2.2.2 + r1), .ref (Γ.2.2.2 + r2), .int x3, .int x4] (M, ρ) (ao_PI ρ y) := by
  refine ao_of (by decide) (ao_cat1 (Nat.le_of_ble_eq_true rfl)) (Nat.le_of_ble_eq_true rfl) ?_
  show ao_W Γ uX0_tryFrom (ao_rm d 0 0) (ao_Q Γ (ao_PI ρ y) 0 0) 0 0 0 [some (.ref (Γ.2.2.2 + r0)), some (.ref (Γ.2.2.2 + r1)), some (.ref (Γ.2.2.2 + r2)), some (.int x3), some (.int x4), none, none, none] [] (M, ρ)
  exact (wGT n).1 64 d hd r0 r1 r2 x3 x4 M y h

abbrev uX12_expression : ao_Mi := (yX12_expression, cX12_expression, 3, none, [])
abbrev uX12_sum : ao_Mi := (yX12_sum, cX12_sum, 3, none, [])
abbrev uX12_product : ao_Mi := (yX12_product, cX12_product, 2, none, [])
abbrev uX12_simple : ao_Mi := (yX12_simple, cX12_simple, 3, none, [])
def fGE : Nat → Nat → Nat → Nat → Int32 → Int32 → Nat →  ao_M → ao_H → Option ((Int32 ⊕ String) × ao_S)
  | 0, _, _, _, _, _, _, _, _ => none
  | n + 1, e, pc, r0, x1, s0, q1, M, ρ =>
    if pc = 0 then
      if ρ.2.1 r0 = 22 then
      if 0 < e then
      (fGE n (e - 1) 1000 r0 0 0 0 M ρ).bind fun p2 =>
      ao_cs p2.1 (fun _ => fGE n e 4 r0 0 0 0 p2.2.1 p2.2.2) (fun E => some (.inr E, p2.2.1, p2.2.2))
      else none
      else none
    else if pc = 4 then
      if ρ.2.1 r0 = 22 then
      (gX12_isSign r0 (300 : Int32) M ρ).bind fun p6 =>
      if p6.1 = 0 then
        (gX12_isSign r0 (60 : Int32) p6.2 ρ).bind fun p8 =>
        if p8.1 = 0 then
          fGE n e 34 r0 0 (-1 : Int32) 0 p8.2 ρ
        else
          fGE n e 34 r0 0 (8 : Int32) 0 p8.2 ρ
      else
        fGE n e 34 r0 0 (7 : Int32) 0 p6.2 ρ
      else none
    else if pc = 34 then
      if 0 ≤ s0 then
        if ρ.2.1 r0 = 22 then
        (gX12_token n r0 M ρ).bind fun p12 =>
        if 0 < e then
        (fGE n (e - 1) 1000 r0 0 0 0 p12 ρ).bind fun p13 =>
        ao_cs p13.1 (fun _ => fGE n e 48 r0 s0 0 0 p13.2.1 p13.2.2) (fun E => some (.inr E, p13.2.1, p13.2.2))
        else none
        else none
      else
        some (.inl 0, M, ρ)
    else if pc = 48 then
      if ρ.2.1 r0 = 22 then
      (gX12_make r0 x1 (0 : Int32) (0 : Int32) M ρ).bind fun p17 =>
      ao_let p17.1 fun v18 =>
      some (.inl 0, p17.2, ρ)
      else none
    else if pc = 1000 then
      if ρ.2.1 r0 = 22 then
      if 0 < e then
      (fGE n (e - 1) 2000 r0 0 0 0 M ρ).bind fun p2 =>
      ao_cs p2.1 (fun _ => fGE n e 1004 r0 0 0 0 p2.2.1 p2.2.2) (fun E => some (.inr E, p2.2.1, p2.2.2))
      else none
      else none
    else if pc = 1004 then
      if ρ.2.1 r0 = 22 then
      (gX12_isSign r0 (43 : Int32) M ρ).bind fun p6 =>
      if p6.1 = 0 then
        (gX12_isSign r0 (45 : Int32) p6.2 ρ).bind fun p8 =>
        if p8.1 = 0 then
          some (.inl 0, p8.2, ρ)
        else
          fGE n e 1022 r0 0 0 0 p8.2 ρ
      else
        fGE n e 1022 r0 0 0 0 p6.2 ρ
      else none
    else if pc = 1022 then
      if ρ.2.1 r0 = 22 then
      (gX12_isSign r0 (43 : Int32) M ρ).bind fun p11 =>
      if p11.1 = 0 then
        fGE n e 1036 r0 0 (4 : Int32) 0 p11.2 ρ
      else
        fGE n e 1036 r0 0 (3 : Int32) 0 p11.2 ρ
      else none
    else if pc = 1036 then
      if ρ.2.1 r0 = 22 then
      (gX12_token n r0 M ρ).bind fun p14 =>
      if 0 < e then
      (fGE n (e - 1) 2000 r0 0 0 0 p14 ρ).bind fun p15 =>
      ao_cs p15.1 (fun _ => fGE n e 1045 r0 s0 0 0 p15.2.1 p15.2.2) (fun E => some (.inr E, p15.2.1, p15.2.2))
      else none
      else none
    else if pc = 1045 then
      if ρ.2.1 r0 = 22 then
      (gX12_make r0 x1 (0 : Int32) (0 : Int32) M ρ).bind fun p19 =>
      ao_let p19.1 fun v20 =>
      fGE n e 1004 r0 0 0 0 p19.2 ρ
      else none
    else if pc = 2000 then
      if ρ.2.1 r0 = 22 then
      if 0 < e then
      (fGE n (e - 1) 3000 r0 0 0 0 M ρ).bind fun p2 =>
      ao_cs p2.1 (fun _ => fGE n e 2004 r0 0 0 0 p2.2.1 p2.2.2) (fun E => some (.inr E, p2.2.1, p2.2.2))
      else none
      else none
    else if pc = 2004 then
      if ρ.2.1 r0 = 22 then
      (gX12_isSign r0 (42 : Int32) M ρ).bind fun p6 =>
      if p6.1 = 0 then
        some (.inl 0, p6.2, ρ)
      else
        (gX12_token n r0 p6.2 ρ).bind fun p8 =>
        if 0 < e then
        (fGE n (e - 1) 3000 r0 0 0 0 p8 ρ).bind fun p9 =>
        ao_cs p9.1 (fun _ => fGE n e 2021 r0 0 0 0 p9.2.1 p9.2.2) (fun E => some (.inr E, p9.2.1, p9.2.2))
        else none
      else none
    else if pc = 2021 then
      if ρ.2.1 r0 = 22 then
      (gX12_make r0 (5 : Int32) (0 : Int32) (0 : Int32) M ρ).bind fun p13 =>
      ao_let p13.1 fun v14 =>
      fGE n e 2004 r0 0 0 0 p13.2 ρ
      else none
    else if pc = 3000 then
      if ρ.2.1 r0 = 22 then
      ao_let (M r0 10) fun v2 =>
      if (M r0 9) = (4 : Int32) then
        fGE n e 3029 r0 v2 0 0 M ρ
      else
        if (M r0 9) = (1 : Int32) then
          fGE n e 3029 r0 v2 0 0 M ρ
        else
          if (M r0 9) = (2 : Int32) then
            fGE n e 3029 r0 v2 0 0 M ρ
          else
            (gX12_isSign r0 (40 : Int32) M ρ).bind fun p6 =>
            if p6.1 = 0 then
              (gX12_isSign r0 (45 : Int32) p6.2 ρ).bind fun p8 =>
              if p8.1 = 0 then
                (gX12_wrong r0 (p8.2 r0 11) p8.2 ρ).bind fun p10 =>
                if ρ.2.1 p10.1 = 21 then
                some (.inr RX11, p10.2, ρ)
                else none
              else
                (gX12_enter n r0 p8.2 ρ).bind fun p12 =>
                ao_cs p12.1 (fun _ => fGE n e 3121 r0 v2 0 0 p12.2.1 p12.2.2) (fun E => some (.inr E, p12.2.1, p12.2.2))
            else
              (gX12_enter n r0 p6.2 ρ).bind fun p14 =>
              ao_cs p14.1 (fun _ => fGE n e 3081 r0 v2 0 0 p14.2.1 p14.2.2) (fun E => some (.inr E, p14.2.1, p14.2.2))
      else none
    else if pc = 3029 then
      if ρ.2.1 r0 = 22 then
      if (M r0 9) = (4 : Int32) then
        fGE n e 3055 r0 x1 (0 : Int32) r0 M ρ
      else
        if (M r0 9) = (1 : Int32) then
          fGE n e 3055 r0 x1 (2 : Int32) r0 M ρ
        else
          fGE n e 3055 r0 x1 (1 : Int32) r0 M ρ
      else none
    else if pc = 3055 then
      if ρ.2.1 q1 = 22 then
      (gX12_make q1 s0 x1 (0 : Int32) M ρ).bind fun p20 =>
      ao_let p20.1 fun v21 =>
      if ρ.2.1 r0 = 22 then
      (gX12_token n r0 p20.2 ρ).bind fun p23 =>
      some (.inl 0, p23, ρ)
      else none
      else none
    else if pc = 3081 then
      if ρ.2.1 r0 = 22 then
      (gX12_token n r0 M ρ).bind fun p25 =>
      if 0 < e then
      (fGE n (e - 1) 0 r0 0 0 0 p25 ρ).bind fun p26 =>
      ao_cs p26.1 (fun _ => fGE n e 3089 r0 x1 0 0 p26.2.1 p26.2.2) (fun E => some (.inr E, p26.2.1, p26.2.2))
      else none
      else none
    else if pc = 3089 then
      if ρ.2.1 r0 = 22 then
      (gX12_need n r0 (41 : Int32) M ρ).bind fun p30 =>
      ao_cs p30.1 (fun _ => fGE n e 3095 r0 x1 0 0 p30.2.1 p30.2.2) (fun E => some (.inr E, p30.2.1, p30.2.2))
      else none
    else if pc = 3095 then
      if ρ.2.1 r0 = 22 then
      ao_let (ao_u M r0 14 ((M r0 14) - (1 : Int32))) fun M33 =>
      some (.inl 0, M33, ρ)
      else none
    else if pc = 3121 then
      if ρ.2.1 r0 = 22 then
      (gX12_token n r0 M ρ).bind fun p35 =>
      if 0 < e then
      (fGE n (e - 1) 3000 r0 0 0 0 p35 ρ).bind fun p36 =>
      ao_cs p36.1 (fun _ => fGE n e 3129 r0 x1 0 0 p36.2.1 p36.2.2) (fun E => some (.inr E, p36.2.1, p36.2.2))
      else none
      else none
    else if pc = 3129 then
      if ρ.2.1 r0 = 22 then
      ao_let (ao_u M r0 14 ((M r0 14) - (1 : Int32))) fun M40 =>
      (gX12_make r0 (6 : Int32) (0 : Int32) (0 : Int32) M40 ρ).bind fun p41 =>
      ao_let p41.1 fun v42 =>
      some (.inl 0, p41.2, ρ)
      else none
    else none
set_option maxRecDepth 100000 in
set_option maxHeartbeats 4000000 in
theorem mGE : ∀ n : Nat, (∀ (e : Nat) (r0 : Nat) (M : ao_M) (ρ : ao_H) (y : (Int32 ⊕ String) × ao_S), fGE n e 0 r0 0 0 0 M ρ = some y → ao_le ρ y.2.2) ∧ (∀ (e : Nat) (r0 : Nat) (M : ao_M) (ρ : ao_H) (y : (Int32 ⊕ String) × ao_S), fGE n e 4 r0 0 0 0 M ρ = some y → ao_le ρ y.2.2) ∧ (∀ (e : Nat) (r0 : Nat) (s0 : Int32) (M : ao_M) (ρ : ao_H) (y : (Int32 ⊕ String) × ao_S), fGE n e 34 r0 0 s0 0 M ρ = some y → ao_le ρ y.2.2) ∧ (∀ (e : Nat) (r0 : Nat) (x1 : Int32) (M : ao_M) (ρ : ao_H) (y : (Int32 ⊕ String) × ao_S), fGE n e 48 r0 x1 0 0 M ρ = some y → ao_le ρ y.2.2) ∧ (∀ (e : Nat) (r0 : Nat) (M : ao_M) (ρ : ao_H) (y : (Int32 ⊕ String) × ao_S), fGE n e 1000 r0 0 0 0 M ρ = some y → ao_le ρ y.2.2) ∧ (∀ (e : Nat) (r0 : Nat) (M : ao_M) (ρ : ao_H) (y : (Int32 ⊕ String) × ao_S), fGE n e 1004 r0 0 0 0 M ρ = some y → ao_le ρ y.2.2) ∧ (∀ (e : Nat) (r0 : Nat) (M : ao_M) (ρ : ao_H) (y : (Int32 ⊕ String) × ao_S), fGE n e 1022 r0 0 0 0 M ρ = some y → ao_le ρ y.2.2) ∧ (∀ (e : Nat) (r0 : Nat) (s0 : Int32) (M : ao_M) (ρ : ao_H) (y : (Int32 ⊕ String) × ao_S), fGE n e 1036 r0 0 s0 0 M ρ = some y → ao_le ρ y.2.2) ∧ (∀ (e : Nat) (r0 : Nat) (x1 : Int32) (M : ao_M) (ρ : ao_H) (y : (Int32 ⊕ String) × ao_S), fGE n e 1045 r0 x1 0 0 M ρ = some y → ao_le ρ y.2.2) ∧ (∀ (e : Nat) (r0 : Nat) (M : ao_M) (ρ : ao_H) (y : (Int32 ⊕ String) × ao_S), fGE n e 2000 r0 0 0 0 M ρ = some y → ao_le ρ y.2.2) ∧ (∀ (e : Nat) (r0 : Nat) (M : ao_M) (ρ : ao_H) (y : (Int32 ⊕ String) × ao_S), fGE n e 2004 r0 0 0 0 M ρ = some y → ao_le ρ y.2.2) ∧ (∀ (e : Nat) (r0 : Nat) (M : ao_M) (ρ : ao_H) (y : (Int32 ⊕ String) × ao_S), fGE n e 2021 r0 0 0 0 M ρ = some y → ao_le ρ y.2.2) ∧ (∀ (e : Nat) (r0 : Nat) (M : ao_M) (ρ : ao_H) (y : (Int32 ⊕ String) × ao_S), fGE n e 3000 r0 0 0 0 M ρ = some y → ao_le ρ y.2.2) ∧ (∀ (e : Nat) (r0 : Nat) (x1 : Int32) (M : ao_M) (ρ : ao_H) (y : (Int32 ⊕ String) × ao_S), fGE n e 3029 r0 x1 0 0 M ρ = some y → ao_le ρ y.2.2) ∧ (∀ (e : Nat) (r0 : Nat) (x1 : Int32) (s0 : Int32) (q1 : Nat) (M : ao_M) (ρ : ao_H) (y : (Int32 ⊕ String) × ao_S), fGE n e 3055 r0 x1 s0 q1 M ρ = some y → ao_le ρ y.2.2) ∧ (∀ (e : Nat) (r0 : Nat) (x1 : Int32) (M : ao_M) (ρ : ao_H) (y : (Int32 ⊕ String) × ao_S), fGE n e 3081 r0 x1 0 0 M ρ = some y → ao_le ρ y.2.2) ∧ (∀ (e : Nat) (r0 : Nat) (x1 : Int32) (M : ao_M) (ρ : ao_H) (y : (Int32 ⊕ String) × ao_S), fGE n e 3089 r0 x1 0 0 M ρ = some y → ao_le ρ y.2.2) ∧ (∀ (e : Nat) (r0 : Nat) (x1 : Int32) (M : ao_M) (ρ : ao_H) (y : (Int32 ⊕ String) × ao_S), fGE n e 3095 r0 x1 0 0 M ρ = some y → ao_le ρ y.2.2) ∧ (∀ (e : Nat) (r0 : Nat) (x1 : Int32) (M : ao_M) (ρ : ao_H) (y : (Int32 ⊕ String) × ao_S), fGE n e 3121 r0 x1 0 0 M ρ = some y → ao_le ρ y.2.2) ∧ (∀ (e : Nat) (r0 : Nat) (x1 : Int32) (M : ao_M) (ρ : ao_H) (y : (Int32 ⊕ String) × ao_S), fGE n e 3129 r0 x1 0 0 M ρ = some y → ao_le ρ y.2.2) := by
  intro n
  induction n with
  | zero => exact ⟨fun _ _ _ _ _ h => ao_no h, fun _ _ _ _ _ h => ao_no h, fun _ _ _ _ _ _ h => ao_no h, fun _ _ _ _ _ _ h => ao_no h, fun _ _ _ _ _ h => ao_no h, fun _ _ _ _ _ h => ao_no h, fun _ _ _ _ _ h => ao_no h, fun _ _ _ _ _ _ h => ao_no h, fun _ _ _ _ _ _ h => ao_no h, fun _ _ _ _ _ h => ao_no h, fun _ _ _ _ _ h => ao_no h, fun _ _ _ _ _ h => ao_no h, fun _ _ _ _ _ h => ao_no h, fun _ _ _ _ _ _ h => ao_no h, fun _ _ _ _ _ _ _ _ h => ao_no h, fun _ _ _ _ _ _ h => ao_no h, fun _ _ _ _ _ _ h => ao_no h, fun _ _ _ _ _ _ h => ao_no h, fun _ _ _ _ _ _ h => ao_no h, fun _ _ _ _ _ _ h => ao_no h⟩
  | succ n ih =>
    refine ⟨?_, ?_, ?_, ?_, ?_, ?_, ?_, ?_, ?_, ?_, ?_, ?_, ?_, ?_, ?_, ?_, ?_, ?_, ?_, ?_⟩
    · intro e r0 M ρ y h
      replace h := ao_ifT h rfl
      obtain ⟨-, h⟩ := ao_some h
      obtain ⟨-, h⟩ := ao_some h
      obtain ⟨p2, hp2, h⟩ := ao_bind h
      exact ao_le_tr (ih.2.2.2.2.1 (e - 1) r0 M ρ _ hp2) (ao_csM h (fun _ h => ih.2.1 e r0 p2.2.1 p2.2.2 _ h) (fun _ h => by cases h; exact ao_le_rf _))
    · intro e r0 M ρ y h
      replace h := ao_ifF h (by decide)
      replace h := ao_ifT h rfl
      obtain ⟨-, h⟩ := ao_some h
      obtain ⟨p6, hp6, h⟩ := ao_bind h
      rcases ao_ifC h with h | h
      · obtain ⟨p8, hp8, h⟩ := ao_bind h
        rcases ao_ifC h with h | h
        · exact ih.2.2.1 e r0 (-1 : Int32) p8.2 ρ _ h
        · exact ih.2.2.1 e r0 (8 : Int32) p8.2 ρ _ h
      · exact ih.2.2.1 e r0 (7 : Int32) p6.2 ρ _ h
    · intro e r0 s0 M ρ y h
      replace h := ao_ifF h (by decide)
      replace h := ao_ifF h (by decide)
      replace h := ao_ifT h rfl
      rcases ao_ifC h with h | h
      · obtain ⟨-, h⟩ := ao_some h
        obtain ⟨p12, hp12, h⟩ := ao_bind h
        obtain ⟨-, h⟩ := ao_some h
        obtain ⟨p13, hp13, h⟩ := ao_bind h
        exact ao_le_tr (ih.2.2.2.2.1 (e - 1) r0 p12 ρ _ hp13) (ao_csM h (fun _ h => ih.2.2.2.1 e r0 s0 p13.2.1 p13.2.2 _ h) (fun _ h => by cases h; exact ao_le_rf _))
      · cases h
        exact ao_le_rf _
    · intro e r0 x1 M ρ y h
      replace h := ao_ifF h (by decide)
      replace h := ao_ifF h (by decide)
      replace h := ao_ifF h (by decide)
      replace h := ao_ifT h rfl
      obtain ⟨-, h⟩ := ao_some h
      obtain ⟨p17, hp17, h⟩ := ao_bind h
      replace h := ao_letD h rfl
      generalize p17.1 = v18 at h
      cases h
      exact ao_le_rf _
    · intro e r0 M ρ y h
      replace h := ao_ifF h (by decide)
      replace h := ao_ifF h (by decide)
      replace h := ao_ifF h (by decide)
      replace h := ao_ifF h (by decide)
      replace h := ao_ifT h rfl
      obtain ⟨-, h⟩ := ao_some h
      obtain ⟨-, h⟩ := ao_some h
      obtain ⟨p2, hp2, h⟩ := ao_bind h
      exact ao_le_tr (ih.2.2.2.2.2.2.2.2.2.1 (e - 1) r0 M ρ _ hp2) (ao_csM h (fun _ h => ih.2.2.2.2.2.1 e r0 p2.2.1 p2.2.2 _ h) (fun _ h => by cases h; exact ao_le_rf _))
    · intro e r0 M ρ y h
      replace h := ao_ifF h (by decide)
      replace h := ao_ifF h (by decide)
      replace h := ao_ifF h (by decide)
      replace h := ao_ifF h (by decide)
      replace h := ao_ifF h (by decide)
      replace h := ao_ifT h rfl
      obtain ⟨-, h⟩ := ao_some h
      obtain ⟨p6, hp6, h⟩ := ao_bind h
      rcases ao_ifC h with h | h
      · obtain ⟨p8, hp8, h⟩ := ao_bind h
        rcases ao_ifC h with h | h
        · cases h
          exact ao_le_rf _
        · exact ih.2.2.2.2.2.2.1 e r0 p8.2 ρ _ h
      · exact ih.2.2.2.2.2.2.1 e r0 p6.2 ρ _ h
    · intro e r0 M ρ y h
      replace h := ao_ifF h (by decide)
      replace h := ao_ifF h (by decide)
      replace h := ao_ifF h (by decide)
      replace h := ao_ifF h (by decide)
      replace h := ao_ifF h (by decide)
      replace h := ao_ifF h (by decide)
      replace h := ao_ifT h rfl
      obtain ⟨-, h⟩ := ao_some h
      obtain ⟨p11, hp11, h⟩ := ao_bind h
      rcases ao_ifC h with h | h
      · exact ih.2.2.2.2.2.2.2.1 e r0 (4 : Int32) p11.2 ρ _ h
      · exact ih.2.2.2.2.2.2.2.1 e r0 (3 : Int32) p11.2 ρ _ h
    · intro e r0 s0 M ρ y h
      replace h := ao_ifF h (by decide)
      replace h := ao_ifF h (by decide)
      replace h := ao_ifF h (by decide)
      replace h := ao_ifF h (by decide)
      replace h := ao_ifF h (by decide)
      replace h := ao_ifF h (by decide)
      replace h := ao_ifF h (by decide)
      replace h := ao_ifT h rfl
      obtain ⟨-, h⟩ := ao_some h
      obtain ⟨p14, hp14, h⟩ := ao_bind h
      obtain ⟨-, h⟩ := ao_some h
      obtain ⟨p15, hp15, h⟩ := ao_bind h
      exact ao_le_tr (ih.2.2.2.2.2.2.2.2.2.1 (e - 1) r0 p14 ρ _ hp15) (ao_csM h (fun _ h => ih.2.2.2.2.2.2.2.2.1 e r0 s0 p15.2.1 p15.2.2 _ h) (fun _ h => by cases h; exact ao_le_rf _))
    · intro e r0 x1 M ρ y h
      replace h := ao_ifF h (by decide)
      replace h := ao_ifF h (by decide)
      replace h := ao_ifF h (by decide)
      replace h := ao_ifF h (by decide)
      replace h := ao_ifF h (by decide)
      replace h := ao_ifF h (by decide)
      replace h := ao_ifF h (by decide)
      replace h := ao_ifF h (by decide)
      replace h := ao_ifT h rfl
      obtain ⟨-, h⟩ := ao_some h
      obtain ⟨p19, hp19, h⟩ := ao_bind h
      replace h := ao_letD h rfl
      generalize p19.1 = v20 at h
      exact ih.2.2.2.2.2.1 e r0 p19.2 ρ _ h
    · intro e r0 M ρ y h
      replace h := ao_ifF h (by decide)
      replace h := ao_ifF h (by decide)
      replace h := ao_ifF h (by decide)
      replace h := ao_ifF h (by decide)
      replace h := ao_ifF h (by decide)
      replace h := ao_ifF h (by decide)
      replace h := ao_ifF h (by decide)
      replace h := ao_ifF h (by decide)
      replace h := ao_ifF h (by decide)
      replace h := ao_ifT h rfl
      obtain ⟨-, h⟩ := ao_some h
      obtain ⟨-, h⟩ := ao_some h
      obtain ⟨p2, hp2, h⟩ := ao_bind h
      exact ao_le_tr (ih.2.2.2.2.2.2.2.2.2.2.2.2.1 (e - 1) r0 M ρ _ hp2) (ao_csM h (fun _ h => ih.2.2.2.2.2.2.2.2.2.2.1 e r0 p2.2.1 p2.2.2 _ h) (fun _ h => by cases h; exact ao_le_rf _))
    · intro e r0 M ρ y h
      replace h := ao_ifF h (by decide)
      replace h := ao_ifF h (by decide)
      replace h := ao_ifF h (by decide)
      replace h := ao_ifF h (by decide)
      replace h := ao_ifF h (by decide)
      replace h := ao_ifF h (by decide)
      replace h := ao_ifF h (by decide)
      replace h := ao_ifF h (by decide)
      replace h := ao_ifF h (by decide)
      replace h := ao_ifF h (by decide)
      replace h := ao_ifT h rfl
      obtain ⟨-, h⟩ := ao_some h
      obtain ⟨p6, hp6, h⟩ := ao_bind h
      rcases ao_ifC h with h | h
      · cases h
        exact ao_le_rf _
      · obtain ⟨p8, hp8, h⟩ := ao_bind h
        obtain ⟨-, h⟩ := ao_some h
        obtain ⟨p9, hp9, h⟩ := ao_bind h
        exact ao_le_tr (ih.2.2.2.2.2.2.2.2.2.2.2.2.1 (e - 1) r0 p8 ρ _ hp9) (ao_csM h (fun _ h => ih.2.2.2.2.2.2.2.2.2.2.2.1 e r0 p9.2.1 p9.2.2 _ h) (fun _ h => by cases h; exact ao_le_rf _))
    · intro e r0 M ρ y h
      replace h := ao_ifF h (by decide)
      replace h := ao_ifF h (by decide)
      replace h := ao_ifF h (by decide)
      replace h := ao_ifF h (by decide)
      replace h := ao_ifF h (by decide)
      replace h := ao_ifF h (by decide)
      replace h := ao_ifF h (by decide)
      replace h := ao_ifF h (by decide)
      replace h := ao_ifF h (by decide)
      replace h := ao_ifF h (by decide)
      replace h := ao_ifF h (by decide)
      replace h := ao_ifT h rfl
      obtain ⟨-, h⟩ := ao_some h
      obtain ⟨p13, hp13, h⟩ := ao_bind h
      replace h := ao_letD h rfl
      generalize p13.1 = v14 at h
      exact ih.2.2.2.2.2.2.2.2.2.2.1 e r0 p13.2 ρ _ h
    · intro e r0 M ρ y h
      replace h := ao_ifF h (by decide)
      replace h := ao_ifF h (by decide)
      replace h := ao_ifF h (by decide)
      replace h := ao_ifF h (by decide)
      replace h := ao_ifF h (by decide)
      replace h := ao_ifF h (by decide)
      replace h := ao_ifF h (by decide)
      replace h := ao_ifF h (by decide)
      replace h := ao_ifF h (by decide)
      replace h := ao_ifF h (by decide)
      replace h := ao_ifF h (by decide)
      replace h := ao_ifF h (by decide)
      replace h := ao_ifT h rfl
      obtain ⟨-, h⟩ := ao_some h
      replace h := ao_letD h rfl
      generalize (M r0 10) = v2 at h
      rcases ao_ifC h with h | h
      · exact ih.2.2.2.2.2.2.2.2.2.2.2.2.2.1 e r0 v2 M ρ _ h
      · rcases ao_ifC h with h | h
        · exact ih.2.2.2.2.2.2.2.2.2.2.2.2.2.1 e r0 v2 M ρ _ h
        · rcases ao_ifC h with h | h
          · exact ih.2.2.2.2.2.2.2.2.2.2.2.2.2.1 e r0 v2 M ρ _ h
          · obtain ⟨p6, hp6, h⟩ := ao_bind h
            rcases ao_ifC h with h | h
            · obtain ⟨p8, hp8, h⟩ := ao_bind h
              rcases ao_ifC h with h | h
              · obtain ⟨p10, hp10, h⟩ := ao_bind h
                obtain ⟨-, h⟩ := ao_some h
                cases h
                exact ao_le_rf _
              · obtain ⟨p12, hp12, h⟩ := ao_bind h
                exact ao_le_tr (me_X12_enter n r0 p8.2 ρ hp12) (ao_csM h (fun _ h => ih.2.2.2.2.2.2.2.2.2.2.2.2.2.2.2.2.2.2.1 e r0 v2 p12.2.1 p12.2.2 _ h) (fun _ h => by cases h; exact ao_le_rf _))
            · obtain ⟨p14, hp14, h⟩ := ao_bind h
              exact ao_le_tr (me_X12_enter n r0 p6.2 ρ hp14) (ao_csM h (fun _ h => ih.2.2.2.2.2.2.2.2.2.2.2.2.2.2.2.1 e r0 v2 p14.2.1 p14.2.2 _ h) (fun _ h => by cases h; exact ao_le_rf _))
    · intro e r0 x1 M ρ y h
      replace h := ao_ifF h (by decide)
      replace h := ao_ifF h (by decide)
      replace h := ao_ifF h (by decide)
      replace h := ao_ifF h (by decide)
      replace h := ao_ifF h (by decide)
      replace h := ao_ifF h (by decide)
      replace h := ao_ifF h (by decide)
      replace h := ao_ifF h (by decide)
      replace h := ao_ifF h (by decide)
      replace h := ao_ifF h (by decide)
      replace h := ao_ifF h (by decide)
      replace h := ao_ifF h (by decide)
      replace h := ao_ifF h (by decide)
      replace h := ao_ifT h rfl
      obtain ⟨-, h⟩ := ao_some h
      rcases ao_ifC h with h | h
      · exact ih.2.2.2.2.2.2.2.2.2.2.2.2.2.2.1 e r0 x1 (0 : Int32) r0 M ρ _ h
      · rcases ao_ifC h with h | h
        · exact ih.2.2.2.2.2.2.2.2.2.2.2.2.2.2.1 e r0 x1 (2 : Int32) r0 M ρ _ h
        · exact ih.2.2.2.2.2.2.2.2.2.2.2.2.2.2.1 e r0 x1 (1 : Int32) r0 M ρ _ h
    · intro e r0 x1 s0 q1 M ρ y h
      replace h := ao_ifF h (by decide)
      replace h := ao_ifF h (by decide)
      replace h := ao_ifF h (by decide)
      replace h := ao_ifF h (by decide)
      replace h := ao_ifF h (by decide)
      replace h := ao_ifF h (by decide)
      replace h := ao_ifF h (by decide)
      replace h := ao_ifF h (by decide)
      replace h := ao_ifF h (by decide)
      replace h := ao_ifF h (by decide)
      replace h := ao_ifF h (by decide)
      replace h := ao_ifF h (by decide)
      replace h := ao_ifF h (by decide)
      replace h := ao_ifF h (by decide)
      replace h := ao_ifT h rfl
      obtain ⟨-, h⟩ := ao_some h
      obtain ⟨p20, hp20, h⟩ := ao_bind h
      replace h := ao_letD h rfl
      generalize p20.1 = v21 at h
      obtain ⟨-, h⟩ := ao_some h
      obtain ⟨p23, hp23, h⟩ := ao_bind h
      cases h
      exact ao_le_rf _
    · intro e r0 x1 M ρ y h
      replace h := ao_ifF h (by decide)
      replace h := ao_ifF h (by decide)
      replace h := ao_ifF h (by decide)
      replace h := ao_ifF h (by decide)
      replace h := ao_ifF h (by decide)
      replace h := ao_ifF h (by decide)
      replace h := ao_ifF h (by decide)
      replace h := ao_ifF h (by decide)
      replace h := ao_ifF h (by decide)
      replace h := ao_ifF h (by decide)
      replace h := ao_ifF h (by decide)
      replace h := ao_ifF h (by decide)
      replace h := ao_ifF h (by decide)
      replace h := ao_ifF h (by decide)
      replace h := ao_ifF h (by decide)
      replace h := ao_ifT h rfl
      obtain ⟨-, h⟩ := ao_some h
      obtain ⟨p25, hp25, h⟩ := ao_bind h
      obtain ⟨-, h⟩ := ao_some h
      obtain ⟨p26, hp26, h⟩ := ao_bind h
      exact ao_le_tr (ih.1 (e - 1) r0 p25 ρ _ hp26) (ao_csM h (fun _ h => ih.2.2.2.2.2.2.2.2.2.2.2.2.2.2.2.2.1 e r0 x1 p26.2.1 p26.2.2 _ h) (fun _ h => by cases h; exact ao_le_rf _))
    · intro e r0 x1 M ρ y h
      replace h := ao_ifF h (by decide)
      replace h := ao_ifF h (by decide)
      replace h := ao_ifF h (by decide)
      replace h := ao_ifF h (by decide)
      replace h := ao_ifF h (by decide)
      replace h := ao_ifF h (by decide)
      replace h := ao_ifF h (by decide)
      replace h := ao_ifF h (by decide)
      replace h := ao_ifF h (by decide)
      replace h := ao_ifF h (by decide)
      replace h := ao_ifF h (by decide)
      replace h := ao_ifF h (by decide)
      replace h := ao_ifF h (by decide)
      replace h := ao_ifF h (by decide)
      replace h := ao_ifF h (by decide)
      replace h := ao_ifF h (by decide)
      replace h := ao_ifT h rfl
      obtain ⟨-, h⟩ := ao_some h
      obtain ⟨p30, hp30, h⟩ := ao_bind h
      exact ao_le_tr (me_X12_need n r0 (41 : Int32) M ρ hp30) (ao_csM h (fun _ h => ih.2.2.2.2.2.2.2.2.2.2.2.2.2.2.2.2.2.1 e r0 x1 p30.2.1 p30.2.2 _ h) (fun _ h => by cases h; exact ao_le_rf _))
    · intro e r0 x1 M ρ y h
      replace h := ao_ifF h (by decide)
      replace h := ao_ifF h (by decide)
      replace h := ao_ifF h (by decide)
      replace h := ao_ifF h (by decide)
      replace h := ao_ifF h (by decide)
      replace h := ao_ifF h (by decide)
      replace h := ao_ifF h (by decide)
      replace h := ao_ifF h (by decide)
      replace h := ao_ifF h (by decide)
      replace h := ao_ifF h (by decide)
      replace h := ao_ifF h (by decide)
      replace h := ao_ifF h (by decide)
      replace h := ao_ifF h (by decide)
      replace h := ao_ifF h (by decide)
      replace h := ao_ifF h (by decide)
      replace h := ao_ifF h (by decide)
      replace h := ao_ifF h (by decide)
      replace h := ao_ifT h rfl
      obtain ⟨-, h⟩ := ao_some h
      replace h := ao_letD h rfl
      generalize (ao_u M r0 14 ((M r0 14) - (1 : Int32))) = M33 at h
      cases h
      exact ao_le_rf _
    · intro e r0 x1 M ρ y h
      replace h := ao_ifF h (by decide)
      replace h := ao_ifF h (by decide)
      replace h := ao_ifF h (by decide)
      replace h := ao_ifF h (by decide)
      replace h := ao_ifF h (by decide)
      replace h := ao_ifF h (by decide)
      replace h := ao_ifF h (by decide)
      replace h := ao_ifF h (by decide)
      replace h := ao_ifF h (by decide)
      replace h := ao_ifF h (by decide)
      replace h := ao_ifF h (by decide)
      replace h := ao_ifF h (by decide)
      replace h := ao_ifF h (by decide)
      replace h := ao_ifF h (by decide)
      replace h := ao_ifF h (by decide)
      replace h := ao_ifF h (by decide)
      replace h := ao_ifF h (by decide)
      replace h := ao_ifF h (by decide)
      replace h := ao_ifT h rfl
      obtain ⟨-, h⟩ := ao_some h
      obtain ⟨p35, hp35, h⟩ := ao_bind h
      obtain ⟨-, h⟩ := ao_some h
      obtain ⟨p36, hp36, h⟩ := ao_bind h
      exact ao_le_tr (ih.2.2.2.2.2.2.2.2.2.2.2.2.1 (e - 1) r0 p35 ρ _ hp36) (ao_csM h (fun _ h => ih.2.2.2.2.2.2.2.2.2.2.2.2.2.2.2.2.2.2.2 e r0 x1 p36.2.1 p36.2.2 _ h) (fun _ h => by cases h; exact ao_le_rf _))
    · intro e r0 x1 M ρ y h
      replace h := ao_ifF h (by decide)
      replace h := ao_ifF h (by decide)
      replace h := ao_ifF h (by decide)
      replace h := ao_ifF h (by decide)
      replace h := ao_ifF h (by decide)
      replace h := ao_ifF h (by decide)
      replace h := ao_ifF h (by decide)
      replace h := ao_ifF h (by decide)
      replace h := ao_ifF h (by decide)
      replace h := ao_ifF h (by decide)
      replace h := ao_ifF h (by decide)
      replace h := ao_ifF h (by decide)
      replace h := ao_ifF h (by decide)
      replace h := ao_ifF h (by decide)
      replace h := ao_ifF h (by decide)
      replace h := ao_ifF h (by decide)
      replace h := ao_ifF h (by decide)
      replace h := ao_ifF h (by decide)
      replace h := ao_ifF h (by decide)
      replace h := ao_ifT h rfl
      obtain ⟨-, h⟩ := ao_some h
      replace h := ao_letD h rfl
      generalize (ao_u M r0 14 ((M r0 14) - (1 : Int32))) = M40 at h
      obtain ⟨p41, hp41, h⟩ := ao_bind h
      replace h := ao_letD h rfl
      generalize p41.1 = v42 at h
      cases h
      exact ao_le_rf _
set_option maxRecDepth 100000 in
set_option maxHeartbeats 4000000 in
theorem wGE {Γ : ao_C} : ∀ n : Nat, (∀ (e d MC MS : Nat) (hd : 8 + e ≤ d) (r0 : Nat) (M : ao_M) (ρ : ao_H) (y : (Int32 ⊕ String) × ao_S), fGE n e 0 r0 0 0 0 M ρ = some y → ao_W Γ uX12_expression (ao_rm d MC MS) (ao_Q Γ (ao_ZV y) MC MS) (ao_dc ρ y.2.2) (ao_ds ρ y.2.2) 0 [some (.ref (Γ.2.2.2 + r0)), none, none] [] (M, ρ)) ∧ (∀ (e d MC MS : Nat) (hd : 8 + e ≤ d) (r0 : Nat) (M : ao_M) (ρ : ao_H) (y : (Int32 ⊕ String) × ao_S), fGE n e 4 r0 0 0 0 M ρ = some y → ao_W Γ uX12_expression (ao_rm d MC MS) (ao_Q Γ (ao_ZV y) MC MS) (ao_dc ρ y.2.2) (ao_ds ρ y.2.2) 4 [some (.ref (Γ.2.2.2 + r0)), none, none] [] (M, ρ)) ∧ (∀ (e d MC MS : Nat) (hd : 8 + e ≤ d) (r0 : Nat) (s0 : Int32) (M : ao_M) (ρ : ao_H) (y : (Int32 ⊕ String) × ao_S), fGE n e 34 r0 0 s0 0 M ρ = some y → ao_W Γ uX12_expression (ao_rm d MC MS) (ao_Q Γ (ao_ZV y) MC MS) (ao_dc ρ y.2.2) (ao_ds ρ y.2.2) 34 [some (.ref (Γ.2.2.2 + r0)), none, none] [.int s0] (M, ρ)) ∧ (∀ (e d MC MS : Nat) (hd : 8 + e ≤ d) (r0 : Nat) (x1 : Int32) (M : ao_M) (ρ : ao_H) (y : (Int32 ⊕ String) × ao_S), fGE n e 48 r0 x1 0 0 M ρ = some y → ao_W Γ uX12_expression (ao_rm d MC MS) (ao_Q Γ (ao_ZV y) MC MS) (ao_dc ρ y.2.2) (ao_ds ρ y.2.2) 48 [some (.ref (Γ.2.2.2 + r0)), some (.int x1), none] [] (M, ρ)) ∧ (∀ (e d MC MS : Nat) (hd : 8 + e ≤ d) (r0 : Nat) (M : ao_M) (ρ : ao_H) (y : (Int32 ⊕ String) × ao_S), fGE n e 1000 r0 0 0 0 M ρ = some y → ao_W Γ uX12_sum (ao_rm d MC MS) (ao_Q Γ (ao_ZV y) MC MS) (ao_dc ρ y.2.2) (ao_ds ρ y.2.2) 0 [some (.ref (Γ.2.2.2 + r0)), none, none] [] (M, ρ)) ∧ (∀ (e d MC MS : Nat) (hd : 8 + e ≤ d) (r0 : Nat) (M : ao_M) (ρ : ao_H) (y : (Int32 ⊕ String) × ao_S), fGE n e 1004 r0 0 0 0 M ρ = some y → ao_W Γ uX12_sum (ao_rm d MC MS) (ao_Q Γ (ao_ZV y) MC MS) (ao_dc ρ y.2.2) (ao_ds ρ y.2.2) 4 [some (.ref (Γ.2.2.2 + r0)), none, none] [] (M, ρ)) ∧ (∀ (e d MC MS : Nat) (hd : 8 + e ≤ d) (r0 : Nat) (M : ao_M) (ρ : ao_H) (y : (Int32 ⊕ String) × ao_S), fGE n e 1022 r0 0 0 0 M ρ = some y → ao_W Γ uX12_sum (ao_rm d MC MS) (ao_Q Γ (ao_ZV y) MC MS) (ao_dc ρ y.2.2) (ao_ds ρ y.2.2) 22 [some (.ref (Γ.2.2.2 + r0)), none, none] [] (M, ρ)) ∧ (∀ (e d MC MS : Nat) (hd : 8 + e ≤ d) (r0 : Nat) (s0 : Int32) (M : ao_M) (ρ : ao_H) (y : (Int32 ⊕ String) × ao_S), fGE n e 1036 r0 0 s0 0 M ρ = some y → ao_W Γ uX12_sum (ao_rm d MC MS) (ao_Q Γ (ao_ZV y) MC MS) (ao_dc ρ y.2.2) (ao_ds ρ y.2.2) 36 [some (.ref (Γ.2.2.2 + r0)), none, none] [.int s0] (M, ρ)) ∧ (∀ (e d MC MS : Nat) (hd : 8 + e ≤ d) (r0 : Nat) (x1 : Int32) (M : ao_M) (ρ : ao_H) (y : (Int32 ⊕ String) × ao_S), fGE n e 1045 r0 x1 0 0 M ρ = some y → ao_W Γ uX12_sum (ao_rm d MC MS) (ao_Q Γ (ao_ZV y) MC MS) (ao_dc ρ y.2.2) (ao_ds ρ y.2.2) 45 [some (.ref (Γ.2.2.2 + r0)), some (.int x1), none] [] (M, ρ)) ∧ (∀ (e d MC MS : Nat) (hd : 8 + e ≤ d) (r0 : Nat) (M : ao_M) (ρ : ao_H) (y : (Int32 ⊕ String) × ao_S), fGE n e 2000 r0 0 0 0 M ρ = some y → ao_W Γ uX12_product (ao_rm d MC MS) (ao_Q Γ (ao_ZV y) MC MS) (ao_dc ρ y.2.2) (ao_ds ρ y.2.2) 0 [some (.ref (Γ.2.2.2 + r0)), none] [] (M, ρ)) ∧ (∀ (e d MC MS : Nat) (hd : 8 + e ≤ d) (r0 : Nat) (M : ao_M) (ρ : ao_H) (y : (Int32 ⊕ String) × ao_S), fGE n e 2004 r0 0 0 0 M ρ = some y → ao_W Γ uX12_product (ao_rm d MC MS) (ao_Q Γ (ao_ZV y) MC MS) (ao_dc ρ y.2.2) (ao_ds ρ y.2.2) 4 [some (.ref (Γ.2.2.2 + r0)), none] [] (M, ρ)) ∧ (∀ (e d MC MS : Nat) (hd : 8 + e ≤ d) (r0 : Nat) (M : ao_M) (ρ : ao_H) (y : (Int32 ⊕ String) × ao_S), fGE n e 2021 r0 0 0 0 M ρ = some y → ao_W Γ uX12_product (ao_rm d MC MS) (ao_Q Γ (ao_ZV y) MC MS) (ao_dc ρ y.2.2) (ao_ds ρ y.2.2) 21 [some (.ref (Γ.2.2.2 + r0)), none] [] (M, ρ)) ∧ (∀ (e d MC MS : Nat) (hd : 8 + e ≤ d) (r0 : Nat) (M : ao_M) (ρ : ao_H) (y : (Int32 ⊕ String) × ao_S), fGE n e 3000 r0 0 0 0 M ρ = some y → ao_W Γ uX12_simple (ao_rm d MC MS) (ao_Q Γ (ao_ZV y) MC MS) (ao_dc ρ y.2.2) (ao_ds ρ y.2.2) 0 [some (.ref (Γ.2.2.2 + r0)), none, none] [] (M, ρ)) ∧ (∀ (e d MC MS : Nat) (hd : 8 + e ≤ d) (r0 : Nat) (x1 : Int32) (M : ao_M) (ρ : ao_H) (y : (Int32 ⊕ String) × ao_S), fGE n e 3029 r0 x1 0 0 M ρ = some y → ao_W Γ uX12_simple (ao_rm d MC MS) (ao_Q Γ (ao_ZV y) MC MS) (ao_dc ρ y.2.2) (ao_ds ρ y.2.2) 29 [some (.ref (Γ.2.2.2 + r0)), some (.int x1), none] [] (M, ρ)) ∧ (∀ (e d MC MS : Nat) (hd : 8 + e ≤ d) (r0 : Nat) (x1 : Int32) (s0 : Int32) (q1 : Nat) (M : ao_M) (ρ : ao_H) (y : (Int32 ⊕ String) × ao_S), fGE n e 3055 r0 x1 s0 q1 M ρ = some y → ao_W Γ uX12_simple (ao_rm d MC MS) (ao_Q Γ (ao_ZV y) MC MS) (ao_dc ρ y.2.2) (ao_ds ρ y.2.2) 55 [some (.ref (Γ.2.2.2 + r0)), some (.int x1), none] [.int s0, .ref (Γ.2.2.2 + q1)] (M, ρ)) ∧ (∀ (e d MC MS : Nat) (hd : 8 + e ≤ d) (r0 : Nat) (x1 : Int32) (M : ao_M) (ρ : ao_H) (y : (Int32 ⊕ String) × ao_S), fGE n e 3081 r0 x1 0 0 M ρ = some y → ao_W Γ uX12_simple (ao_rm d MC MS) (ao_Q Γ (ao_ZV y) MC MS) (ao_dc ρ y.2.2) (ao_ds ρ y.2.2) 81 [some (.ref (Γ.2.2.2 + r0)), some (.int x1), none] [] (M, ρ)) ∧ (∀ (e d MC MS : Nat) (hd : 8 + e ≤ d) (r0 : Nat) (x1 : Int32) (M : ao_M) (ρ : ao_H) (y : (Int32 ⊕ String) × ao_S), fGE n e 3089 r0 x1 0 0 M ρ = some y → ao_W Γ uX12_simple (ao_rm d MC MS) (ao_Q Γ (ao_ZV y) MC MS) (ao_dc ρ y.2.2) (ao_ds ρ y.2.2) 89 [some (.ref (Γ.2.2.2 + r0)), some (.int x1), none] [] (M, ρ)) ∧ (∀ (e d MC MS : Nat) (hd : 8 + e ≤ d) (r0 : Nat) (x1 : Int32) (M : ao_M) (ρ : ao_H) (y : (Int32 ⊕ String) × ao_S), fGE n e 3095 r0 x1 0 0 M ρ = some y → ao_W Γ uX12_simple (ao_rm d MC MS) (ao_Q Γ (ao_ZV y) MC MS) (ao_dc ρ y.2.2) (ao_ds ρ y.2.2) 95 [some (.ref (Γ.2.2.2 + r0)), some (.int x1), none] [] (M, ρ)) ∧ (∀ (e d MC MS : Nat) (hd : 8 + e ≤ d) (r0 : Nat) (x1 : Int32) (M : ao_M) (ρ : ao_H) (y : (Int32 ⊕ String) × ao_S), fGE n e 3121 r0 x1 0 0 M ρ = some y → ao_W Γ uX12_simple (ao_rm d MC MS) (ao_Q Γ (ao_ZV y) MC MS) (ao_dc ρ y.2.2) (ao_ds ρ y.2.2) 121 [some (.ref (Γ.2.2.2 + r0)), some (.int x1), none] [] (M, ρ)) ∧ (∀ (e d MC MS : Nat) (hd : 8 + e ≤ d) (r0 : Nat) (x1 : Int32) (M : ao_M) (ρ : ao_H) (y : (Int32 ⊕ String) × ao_S), fGE n e 3129 r0 x1 0 0 M ρ = some y → ao_W Γ uX12_simple (ao_rm d MC MS) (ao_Q Γ (ao_ZV y) MC MS) (ao_dc ρ y.2.2) (ao_ds ρ y.2.2) 129 [some (.ref (Γ.2.2.2 + r0)), some (.int x1), none] [] (M, ρ)) := by
  intro n
  induction n with
  | zero => exact ⟨fun _ _ _ _ _ _ _ _ _ h => ao_no h, fun _ _ _ _ _ _ _ _ _ h => ao_no h, fun _ _ _ _ _ _ _ _ _ _ h => ao_no h, fun _ _ _ _ _ _ _ _ _ _ h => ao_no h, fun _ _ _ _ _ _ _ _ _ h => ao_no h, fun _ _ _ _ _ _ _ _ _ h => ao_no h, fun _ _ _ _ _ _ _ _ _ h => ao_no h, fun _ _ _ _ _ _ _ _ _ _ h => ao_no h, fun _ _ _ _ _ _ _ _ _ _ h => ao_no h, fun _ _ _ _ _ _ _ _ _ h => ao_no h, fun _ _ _ _ _ _ _ _ _ h => ao_no h, fun _ _ _ _ _ _ _ _ _ h => ao_no h, fun _ _ _ _ _ _ _ _ _ h => ao_no h, fun _ _ _ _ _ _ _ _ _ _ h => ao_no h, fun _ _ _ _ _ _ _ _ _ _ _ _ h => ao_no h, fun _ _ _ _ _ _ _ _ _ _ h => ao_no h, fun _ _ _ _ _ _ _ _ _ _ h => ao_no h, fun _ _ _ _ _ _ _ _ _ _ h => ao_no h, fun _ _ _ _ _ _ _ _ _ _ h => ao_no h, fun _ _ _ _ _ _ _ _ _ _ h => ao_no h⟩
  | succ n ih =>
    refine ⟨?_, ?_, ?_, ?_, ?_, ?_, ?_, ?_, ?_, ?_, ?_, ?_, ?_, ?_, ?_, ?_, ?_, ?_, ?_, ?_⟩
    · intro e d MC MS hd r0 M ρ y h
      replace h := ao_ifT h rfl
      refine ao_aload_n 0 dX12_expression_0 rfl rfl ?_
      obtain ⟨hk1, h⟩ := ao_some h
      obtain ⟨he3, h⟩ := ao_some h
      obtain ⟨p2, hp2, h⟩ := ao_bind h
      have hAp2 : ao_A Γ uX12_sum (d - 1) (ao_dc ρ p2.2.2) (ao_ds ρ p2.2.2) [.ref (Γ.2.2.2 + r0)] (M, ρ) (ao_ZV p2) := by
        refine ao_of (by decide) (ao_cat1 (Nat.le_of_ble_eq_true rfl)) (Nat.le_of_ble_eq_true rfl) ?_
        show ao_W Γ uX12_sum (ao_rm (d - 1) (ao_dc ρ p2.2.2) (ao_ds ρ p2.2.2)) (ao_Q Γ (ao_ZV p2) (ao_dc ρ p2.2.2) (ao_ds ρ p2.2.2)) (ao_dc ρ p2.2.2) (ao_ds ρ p2.2.2) 0 [some (.ref (Γ.2.2.2 + r0)), none, none] [] (M, ρ)
        exact ih.2.2.2.2.1 (e - 1) (d - 1) _ _ (by omega) r0 M ρ _ hp2
      refine cx_callVv r0 12 (q := (RX12, TX12, 83)) [] hAp2 dX12_expression_1 lc_X12_84 li_X12_sum ls_X12_sum rfl hk1 rfl rfl (Nat.le_of_ble_eq_true rfl) (ao_hR (by omega) (by decide)) (ao_leC ((mGE n).2.2.2.2.1 (e - 1) r0 M ρ _ hp2) (ao_csM h (fun _ h => (mGE n).2.1 e r0 p2.2.1 p2.2.2 _ h) (fun _ h => by cases h; exact ao_le_rf _))) (ao_leS ((mGE n).2.2.2.2.1 (e - 1) r0 M ρ _ hp2) (ao_csM h (fun _ h => (mGE n).2.1 e r0 p2.2.1 p2.2.2 _ h) (fun _ h => by cases h; exact ao_le_rf _))) (fun _ e4 => ?_) (fun _ e4 => ?_)
      · replace h := ao_csL h e4
        exact ih.2.1 e d MC MS hd r0 p2.2.1 p2.2.2 _ h
      · replace h := ao_csR h e4
        cases h
        exact cx_out rfl ⟨rfl, rfl⟩
    · intro e d MC MS hd r0 M ρ y h
      replace h := ao_ifF h (by decide)
      replace h := ao_ifT h rfl
      refine ao_aload_n 0 dX12_expression_4 rfl rfl ?_
      refine ao_sipush (v := 300) dX12_expression_5 (by decide) ?_
      obtain ⟨hk5, h⟩ := ao_some h
      obtain ⟨p6, hp6, h⟩ := ao_bind h
      refine an_callVi r0 12 (q := (RX12, TX12, 83)) [.int (300 : Int32)] (aX12_isSign (d - 1) (by omega) r0 (300 : Int32) M ρ hp6) dX12_expression_8 lc_X12_60 li_X12_isSign ls_X12_isSign rfl hk5 rfl rfl (Nat.le_of_ble_eq_true rfl) (ao_hR (by omega) (by decide)) ?_
      refine ao_if_eq 19 dX12_expression_11 (by decide) (fun c7 => ?_) (fun c7 => ?_)
      · replace h := ao_ifT h c7
        refine ao_aload_n 0 dX12_expression_19 rfl rfl ?_
        refine ao_bipush (v := 60) dX12_expression_20 (by decide) ?_
        obtain ⟨p8, hp8, h⟩ := ao_bind h
        refine an_callVi r0 12 (q := (RX12, TX12, 83)) [.int (60 : Int32)] (aX12_isSign (d - 1) (by omega) r0 (60 : Int32) p6.2 ρ hp8) dX12_expression_22 lc_X12_60 li_X12_isSign ls_X12_isSign rfl hk5 rfl rfl (Nat.le_of_ble_eq_true rfl) (ao_hR (by omega) (by decide)) ?_
        refine ao_if_eq 33 dX12_expression_25 (by decide) (fun c9 => ?_) (fun c9 => ?_)
        · replace h := ao_ifT h c9
          refine ao_iconst (v := (-1)) dX12_expression_33 (by decide) ?_
          exact ih.2.2.1 e d MC MS hd r0 (-1 : Int32) p8.2 ρ _ h
        · replace h := ao_ifF h c9
          refine ao_bipush (v := 8) dX12_expression_28 (by decide) ?_
          refine ao_goto 34 dX12_expression_30 (by decide) ?_
          exact ih.2.2.1 e d MC MS hd r0 (8 : Int32) p8.2 ρ _ h
      · replace h := ao_ifF h c7
        refine ao_bipush (v := 7) dX12_expression_14 (by decide) ?_
        refine ao_goto 34 dX12_expression_16 (by decide) ?_
        exact ih.2.2.1 e d MC MS hd r0 (7 : Int32) p6.2 ρ _ h
    · intro e d MC MS hd r0 s0 M ρ y h
      replace h := ao_ifF h (by decide)
      replace h := ao_ifF h (by decide)
      replace h := ao_ifT h rfl
      refine ao_istore_n 1 (lo' := [some (.ref (Γ.2.2.2 + r0)), some (.int s0), none]) dX12_expression_34 rfl (Nat.le_of_ble_eq_true rfl) rfl ?_
      refine ao_iload_n 1 dX12_expression_35 rfl rfl ?_
      refine ao_if_ge 40 dX12_expression_36 (by decide) (fun c10 => ?_) (fun c10 => ?_)
      · replace h := ao_ifT h c10
        refine ao_aload_n 0 dX12_expression_40 rfl rfl ?_
        obtain ⟨hk11, h⟩ := ao_some h
        obtain ⟨p12, hp12, h⟩ := ao_bind h
        refine an_callVv r0 12 (q := (RX12, TX12, 83)) [] (aX12_token (d - 1) (by omega) _ r0 M ρ hp12) dX12_expression_41 lc_X12_63 li_X12_token ls_X12_token rfl hk11 rfl rfl (Nat.le_of_ble_eq_true rfl) (ao_hR (by omega) (by decide)) ?_
        refine ao_aload_n 0 dX12_expression_44 rfl rfl ?_
        obtain ⟨he14, h⟩ := ao_some h
        obtain ⟨p13, hp13, h⟩ := ao_bind h
        have hAp13 : ao_A Γ uX12_sum (d - 1) (ao_dc ρ p13.2.2) (ao_ds ρ p13.2.2) [.ref (Γ.2.2.2 + r0)] (p12, ρ) (ao_ZV p13) := by
          refine ao_of (by decide) (ao_cat1 (Nat.le_of_ble_eq_true rfl)) (Nat.le_of_ble_eq_true rfl) ?_
          show ao_W Γ uX12_sum (ao_rm (d - 1) (ao_dc ρ p13.2.2) (ao_ds ρ p13.2.2)) (ao_Q Γ (ao_ZV p13) (ao_dc ρ p13.2.2) (ao_ds ρ p13.2.2)) (ao_dc ρ p13.2.2) (ao_ds ρ p13.2.2) 0 [some (.ref (Γ.2.2.2 + r0)), none, none] [] (p12, ρ)
          exact ih.2.2.2.2.1 (e - 1) (d - 1) _ _ (by omega) r0 p12 ρ _ hp13
        refine cx_callVv r0 12 (q := (RX12, TX12, 83)) [] hAp13 dX12_expression_45 lc_X12_84 li_X12_sum ls_X12_sum rfl hk11 rfl rfl (Nat.le_of_ble_eq_true rfl) (ao_hR (by omega) (by decide)) (ao_leC ((mGE n).2.2.2.2.1 (e - 1) r0 p12 ρ _ hp13) (ao_csM h (fun _ h => (mGE n).2.2.2.1 e r0 s0 p13.2.1 p13.2.2 _ h) (fun _ h => by cases h; exact ao_le_rf _))) (ao_leS ((mGE n).2.2.2.2.1 (e - 1) r0 p12 ρ _ hp13) (ao_csM h (fun _ h => (mGE n).2.2.2.1 e r0 s0 p13.2.1 p13.2.2 _ h) (fun _ h => by cases h; exact ao_le_rf _))) (fun _ e15 => ?_) (fun _ e15 => ?_)
        · replace h := ao_csL h e15
          exact ih.2.2.2.1 e d MC MS hd r0 s0 p13.2.1 p13.2.2 _ h
        · replace h := ao_csR h e15
          cases h
          exact cx_out rfl ⟨rfl, rfl⟩
      · replace h := ao_ifF h c10
        cases h
        exact ao_return dX12_expression_39 rfl ⟨rfl, rfl⟩
    · intro e d MC MS hd r0 x1 M ρ y h
      replace h := ao_ifF h (by decide)
      replace h := ao_ifF h (by decide)
      replace h := ao_ifF h (by decide)
      replace h := ao_ifT h rfl
      refine ao_aload_n 0 dX12_expression_48 rfl rfl ?_
      refine ao_iload_n 1 dX12_expression_49 rfl rfl ?_
      refine ao_iconst (v := 0) dX12_expression_50 (by decide) ?_
      refine ao_iconst (v := 0) dX12_expression_51 (by decide) ?_
      obtain ⟨hk16, h⟩ := ao_some h
      obtain ⟨p17, hp17, h⟩ := ao_bind h
      refine an_callVi r0 12 (q := (RX12, TX12, 83)) [.int x1, .int (0 : Int32), .int (0 : Int32)] (aX12_make (d - 1) (by omega) r0 x1 (0 : Int32) (0 : Int32) M ρ hp17) dX12_expression_52 lc_X12_87 li_X12_make ls_X12_make rfl hk16 rfl rfl (Nat.le_of_ble_eq_true rfl) (ao_hR (by omega) (by decide)) ?_
      refine an_topi (fun v18 hv18 => ?_)
      replace h := ao_letD h hv18
      refine ao_istore_n 2 (lo' := [some (.ref (Γ.2.2.2 + r0)), some (.int x1), some (.int v18)]) dX12_expression_55 rfl (Nat.le_of_ble_eq_true rfl) rfl ?_
      cases h
      exact ao_return dX12_expression_56 rfl ⟨rfl, rfl⟩
    · intro e d MC MS hd r0 M ρ y h
      replace h := ao_ifF h (by decide)
      replace h := ao_ifF h (by decide)
      replace h := ao_ifF h (by decide)
      replace h := ao_ifF h (by decide)
      replace h := ao_ifT h rfl
      refine ao_aload_n 0 dX12_sum_0 rfl rfl ?_
      obtain ⟨hk1, h⟩ := ao_some h
      obtain ⟨he3, h⟩ := ao_some h
      obtain ⟨p2, hp2, h⟩ := ao_bind h
      have hAp2 : ao_A Γ uX12_product (d - 1) (ao_dc ρ p2.2.2) (ao_ds ρ p2.2.2) [.ref (Γ.2.2.2 + r0)] (M, ρ) (ao_ZV p2) := by
        refine ao_of (by decide) (ao_cat1 (Nat.le_of_ble_eq_true rfl)) (Nat.le_of_ble_eq_true rfl) ?_
        show ao_W Γ uX12_product (ao_rm (d - 1) (ao_dc ρ p2.2.2) (ao_ds ρ p2.2.2)) (ao_Q Γ (ao_ZV p2) (ao_dc ρ p2.2.2) (ao_ds ρ p2.2.2)) (ao_dc ρ p2.2.2) (ao_ds ρ p2.2.2) 0 [some (.ref (Γ.2.2.2 + r0)), none] [] (M, ρ)
        exact ih.2.2.2.2.2.2.2.2.2.1 (e - 1) (d - 1) _ _ (by omega) r0 M ρ _ hp2
      refine cx_callVv r0 12 (q := (RX12, TX12, 83)) [] hAp2 dX12_sum_1 lc_X12_91 li_X12_product ls_X12_product rfl hk1 rfl rfl (Nat.le_of_ble_eq_true rfl) (ao_hR (by omega) (by decide)) (ao_leC ((mGE n).2.2.2.2.2.2.2.2.2.1 (e - 1) r0 M ρ _ hp2) (ao_csM h (fun _ h => (mGE n).2.2.2.2.2.1 e r0 p2.2.1 p2.2.2 _ h) (fun _ h => by cases h; exact ao_le_rf _))) (ao_leS ((mGE n).2.2.2.2.2.2.2.2.2.1 (e - 1) r0 M ρ _ hp2) (ao_csM h (fun _ h => (mGE n).2.2.2.2.2.1 e r0 p2.2.1 p2.2.2 _ h) (fun _ h => by cases h; exact ao_le_rf _))) (fun _ e4 => ?_) (fun _ e4 => ?_)
      · replace h := ao_csL h e4
        exact ih.2.2.2.2.2.1 e d MC MS hd r0 p2.2.1 p2.2.2 _ h
      · replace h := ao_csR h e4
        cases h
        exact cx_out rfl ⟨rfl, rfl⟩
    · intro e d MC MS hd r0 M ρ y h
      replace h := ao_ifF h (by decide)
      replace h := ao_ifF h (by decide)
      replace h := ao_ifF h (by decide)
      replace h := ao_ifF h (by decide)
      replace h := ao_ifF h (by decide)
      replace h := ao_ifT h rfl
      refine ao_aload_n 0 dX12_sum_4 rfl rfl ?_
      refine ao_bipush (v := 43) dX12_sum_5 (by decide) ?_
      obtain ⟨hk5, h⟩ := ao_some h
      obtain ⟨p6, hp6, h⟩ := ao_bind h
      refine an_callVi r0 12 (q := (RX12, TX12, 83)) [.int (43 : Int32)] (aX12_isSign (d - 1) (by omega) r0 (43 : Int32) M ρ hp6) dX12_sum_7 lc_X12_60 li_X12_isSign ls_X12_isSign rfl hk5 rfl rfl (Nat.le_of_ble_eq_true rfl) (ao_hR (by omega) (by decide)) ?_
      refine ao_if_ne 22 dX12_sum_10 (by decide) (fun c7 => ?_) (fun c7 => ?_)
      · replace h := ao_ifF h c7
        exact ih.2.2.2.2.2.2.1 e d MC MS hd r0 p6.2 ρ _ h
      · replace h := ao_ifT h c7
        refine ao_aload_n 0 dX12_sum_13 rfl rfl ?_
        refine ao_bipush (v := 45) dX12_sum_14 (by decide) ?_
        obtain ⟨p8, hp8, h⟩ := ao_bind h
        refine an_callVi r0 12 (q := (RX12, TX12, 83)) [.int (45 : Int32)] (aX12_isSign (d - 1) (by omega) r0 (45 : Int32) p6.2 ρ hp8) dX12_sum_16 lc_X12_60 li_X12_isSign ls_X12_isSign rfl hk5 rfl rfl (Nat.le_of_ble_eq_true rfl) (ao_hR (by omega) (by decide)) ?_
        refine ao_if_eq 56 dX12_sum_19 (by decide) (fun c9 => ?_) (fun c9 => ?_)
        · replace h := ao_ifT h c9
          cases h
          exact ao_return dX12_sum_56 rfl ⟨rfl, rfl⟩
        · replace h := ao_ifF h c9
          exact ih.2.2.2.2.2.2.1 e d MC MS hd r0 p8.2 ρ _ h
    · intro e d MC MS hd r0 M ρ y h
      replace h := ao_ifF h (by decide)
      replace h := ao_ifF h (by decide)
      replace h := ao_ifF h (by decide)
      replace h := ao_ifF h (by decide)
      replace h := ao_ifF h (by decide)
      replace h := ao_ifF h (by decide)
      replace h := ao_ifT h rfl
      refine ao_aload_n 0 dX12_sum_22 rfl rfl ?_
      refine ao_bipush (v := 43) dX12_sum_23 (by decide) ?_
      obtain ⟨hk10, h⟩ := ao_some h
      obtain ⟨p11, hp11, h⟩ := ao_bind h
      refine an_callVi r0 12 (q := (RX12, TX12, 83)) [.int (43 : Int32)] (aX12_isSign (d - 1) (by omega) r0 (43 : Int32) M ρ hp11) dX12_sum_25 lc_X12_60 li_X12_isSign ls_X12_isSign rfl hk10 rfl rfl (Nat.le_of_ble_eq_true rfl) (ao_hR (by omega) (by decide)) ?_
      refine ao_if_eq 35 dX12_sum_28 (by decide) (fun c12 => ?_) (fun c12 => ?_)
      · replace h := ao_ifT h c12
        refine ao_iconst (v := 4) dX12_sum_35 (by decide) ?_
        exact ih.2.2.2.2.2.2.2.1 e d MC MS hd r0 (4 : Int32) p11.2 ρ _ h
      · replace h := ao_ifF h c12
        refine ao_iconst (v := 3) dX12_sum_31 (by decide) ?_
        refine ao_goto 36 dX12_sum_32 (by decide) ?_
        exact ih.2.2.2.2.2.2.2.1 e d MC MS hd r0 (3 : Int32) p11.2 ρ _ h
    · intro e d MC MS hd r0 s0 M ρ y h
      replace h := ao_ifF h (by decide)
      replace h := ao_ifF h (by decide)
      replace h := ao_ifF h (by decide)
      replace h := ao_ifF h (by decide)
      replace h := ao_ifF h (by decide)
      replace h := ao_ifF h (by decide)
      replace h := ao_ifF h (by decide)
      replace h := ao_ifT h rfl
      refine ao_istore_n 1 (lo' := [some (.ref (Γ.2.2.2 + r0)), some (.int s0), none]) dX12_sum_36 rfl (Nat.le_of_ble_eq_true rfl) rfl ?_
      refine ao_aload_n 0 dX12_sum_37 rfl rfl ?_
      obtain ⟨hk13, h⟩ := ao_some h
      obtain ⟨p14, hp14, h⟩ := ao_bind h
      refine an_callVv r0 12 (q := (RX12, TX12, 83)) [] (aX12_token (d - 1) (by omega) _ r0 M ρ hp14) dX12_sum_38 lc_X12_63 li_X12_token ls_X12_token rfl hk13 rfl rfl (Nat.le_of_ble_eq_true rfl) (ao_hR (by omega) (by decide)) ?_
      refine ao_aload_n 0 dX12_sum_41 rfl rfl ?_
      obtain ⟨he16, h⟩ := ao_some h
      obtain ⟨p15, hp15, h⟩ := ao_bind h
      have hAp15 : ao_A Γ uX12_product (d - 1) (ao_dc ρ p15.2.2) (ao_ds ρ p15.2.2) [.ref (Γ.2.2.2 + r0)] (p14, ρ) (ao_ZV p15) := by
        refine ao_of (by decide) (ao_cat1 (Nat.le_of_ble_eq_true rfl)) (Nat.le_of_ble_eq_true rfl) ?_
        show ao_W Γ uX12_product (ao_rm (d - 1) (ao_dc ρ p15.2.2) (ao_ds ρ p15.2.2)) (ao_Q Γ (ao_ZV p15) (ao_dc ρ p15.2.2) (ao_ds ρ p15.2.2)) (ao_dc ρ p15.2.2) (ao_ds ρ p15.2.2) 0 [some (.ref (Γ.2.2.2 + r0)), none] [] (p14, ρ)
        exact ih.2.2.2.2.2.2.2.2.2.1 (e - 1) (d - 1) _ _ (by omega) r0 p14 ρ _ hp15
      refine cx_callVv r0 12 (q := (RX12, TX12, 83)) [] hAp15 dX12_sum_42 lc_X12_91 li_X12_product ls_X12_product rfl hk13 rfl rfl (Nat.le_of_ble_eq_true rfl) (ao_hR (by omega) (by decide)) (ao_leC ((mGE n).2.2.2.2.2.2.2.2.2.1 (e - 1) r0 p14 ρ _ hp15) (ao_csM h (fun _ h => (mGE n).2.2.2.2.2.2.2.2.1 e r0 s0 p15.2.1 p15.2.2 _ h) (fun _ h => by cases h; exact ao_le_rf _))) (ao_leS ((mGE n).2.2.2.2.2.2.2.2.2.1 (e - 1) r0 p14 ρ _ hp15) (ao_csM h (fun _ h => (mGE n).2.2.2.2.2.2.2.2.1 e r0 s0 p15.2.1 p15.2.2 _ h) (fun _ h => by cases h; exact ao_le_rf _))) (fun _ e17 => ?_) (fun _ e17 => ?_)
      · replace h := ao_csL h e17
        exact ih.2.2.2.2.2.2.2.2.1 e d MC MS hd r0 s0 p15.2.1 p15.2.2 _ h
      · replace h := ao_csR h e17
        cases h
        exact cx_out rfl ⟨rfl, rfl⟩
    · intro e d MC MS hd r0 x1 M ρ y h
      replace h := ao_ifF h (by decide)
      replace h := ao_ifF h (by decide)
      replace h := ao_ifF h (by decide)
      replace h := ao_ifF h (by decide)
      replace h := ao_ifF h (by decide)
      replace h := ao_ifF h (by decide)
      replace h := ao_ifF h (by decide)
      replace h := ao_ifF h (by decide)
      replace h := ao_ifT h rfl
      refine ao_aload_n 0 dX12_sum_45 rfl rfl ?_
      refine ao_iload_n 1 dX12_sum_46 rfl rfl ?_
      refine ao_iconst (v := 0) dX12_sum_47 (by decide) ?_
      refine ao_iconst (v := 0) dX12_sum_48 (by decide) ?_
      obtain ⟨hk18, h⟩ := ao_some h
      obtain ⟨p19, hp19, h⟩ := ao_bind h
      refine an_callVi r0 12 (q := (RX12, TX12, 83)) [.int x1, .int (0 : Int32), .int (0 : Int32)] (aX12_make (d - 1) (by omega) r0 x1 (0 : Int32) (0 : Int32) M ρ hp19) dX12_sum_49 lc_X12_87 li_X12_make ls_X12_make rfl hk18 rfl rfl (Nat.le_of_ble_eq_true rfl) (ao_hR (by omega) (by decide)) ?_
      refine an_topi (fun v20 hv20 => ?_)
      replace h := ao_letD h hv20
      refine ao_istore_n 2 (lo' := [some (.ref (Γ.2.2.2 + r0)), some (.int x1), some (.int v20)]) dX12_sum_52 rfl (Nat.le_of_ble_eq_true rfl) rfl ?_
      refine ao_goto 4 dX12_sum_53 (by decide) ?_
      refine ao_loForget (lo' := [some (.ref (Γ.2.2.2 + r0)), none, none]) (ao_fgS (ao_fgN (ao_fgN ao_fgZ))) ?_
      exact ih.2.2.2.2.2.1 e d MC MS hd r0 p19.2 ρ _ h
    · intro e d MC MS hd r0 M ρ y h
      replace h := ao_ifF h (by decide)
      replace h := ao_ifF h (by decide)
      replace h := ao_ifF h (by decide)
      replace h := ao_ifF h (by decide)
      replace h := ao_ifF h (by decide)
      replace h := ao_ifF h (by decide)
      replace h := ao_ifF h (by decide)
      replace h := ao_ifF h (by decide)
      replace h := ao_ifF h (by decide)
      replace h := ao_ifT h rfl
      refine ao_aload_n 0 dX12_product_0 rfl rfl ?_
      obtain ⟨hk1, h⟩ := ao_some h
      obtain ⟨he3, h⟩ := ao_some h
      obtain ⟨p2, hp2, h⟩ := ao_bind h
      have hAp2 : ao_A Γ uX12_simple (d - 1) (ao_dc ρ p2.2.2) (ao_ds ρ p2.2.2) [.ref (Γ.2.2.2 + r0)] (M, ρ) (ao_ZV p2) := by
        refine ao_of (by decide) (ao_cat1 (Nat.le_of_ble_eq_true rfl)) (Nat.le_of_ble_eq_true rfl) ?_
        show ao_W Γ uX12_simple (ao_rm (d - 1) (ao_dc ρ p2.2.2) (ao_ds ρ p2.2.2)) (ao_Q Γ (ao_ZV p2) (ao_dc ρ p2.2.2) (ao_ds ρ p2.2.2)) (ao_dc ρ p2.2.2) (ao_ds ρ p2.2.2) 0 [some (.ref (Γ.2.2.2 + r0)), none, none] [] (M, ρ)
        exact ih.2.2.2.2.2.2.2.2.2.2.2.2.1 (e - 1) (d - 1) _ _ (by omega) r0 M ρ _ hp2
      refine cx_callVv r0 12 (q := (RX12, TX12, 83)) [] hAp2 dX12_product_1 lc_X12_94 li_X12_simple ls_X12_simple rfl hk1 rfl rfl (Nat.le_of_ble_eq_true rfl) (ao_hR (by omega) (by decide)) (ao_leC ((mGE n).2.2.2.2.2.2.2.2.2.2.2.2.1 (e - 1) r0 M ρ _ hp2) (ao_csM h (fun _ h => (mGE n).2.2.2.2.2.2.2.2.2.2.1 e r0 p2.2.1 p2.2.2 _ h) (fun _ h => by cases h; exact ao_le_rf _))) (ao_leS ((mGE n).2.2.2.2.2.2.2.2.2.2.2.2.1 (e - 1) r0 M ρ _ hp2) (ao_csM h (fun _ h => (mGE n).2.2.2.2.2.2.2.2.2.2.1 e r0 p2.2.1 p2.2.2 _ h) (fun _ h => by cases h; exact ao_le_rf _))) (fun _ e4 => ?_) (fun _ e4 => ?_)
      · replace h := ao_csL h e4
        exact ih.2.2.2.2.2.2.2.2.2.2.1 e d MC MS hd r0 p2.2.1 p2.2.2 _ h
      · replace h := ao_csR h e4
        cases h
        exact cx_out rfl ⟨rfl, rfl⟩
    · intro e d MC MS hd r0 M ρ y h
      replace h := ao_ifF h (by decide)
      replace h := ao_ifF h (by decide)
      replace h := ao_ifF h (by decide)
      replace h := ao_ifF h (by decide)
      replace h := ao_ifF h (by decide)
      replace h := ao_ifF h (by decide)
      replace h := ao_ifF h (by decide)
      replace h := ao_ifF h (by decide)
      replace h := ao_ifF h (by decide)
      replace h := ao_ifF h (by decide)
      replace h := ao_ifT h rfl
      refine ao_aload_n 0 dX12_product_4 rfl rfl ?_
      refine ao_bipush (v := 42) dX12_product_5 (by decide) ?_
      obtain ⟨hk5, h⟩ := ao_some h
      obtain ⟨p6, hp6, h⟩ := ao_bind h
      refine an_callVi r0 12 (q := (RX12, TX12, 83)) [.int (42 : Int32)] (aX12_isSign (d - 1) (by omega) r0 (42 : Int32) M ρ hp6) dX12_product_7 lc_X12_60 li_X12_isSign ls_X12_isSign rfl hk5 rfl rfl (Nat.le_of_ble_eq_true rfl) (ao_hR (by omega) (by decide)) ?_
      refine ao_if_eq 32 dX12_product_10 (by decide) (fun c7 => ?_) (fun c7 => ?_)
      · replace h := ao_ifT h c7
        cases h
        exact ao_return dX12_product_32 rfl ⟨rfl, rfl⟩
      · replace h := ao_ifF h c7
        refine ao_aload_n 0 dX12_product_13 rfl rfl ?_
        obtain ⟨p8, hp8, h⟩ := ao_bind h
        refine an_callVv r0 12 (q := (RX12, TX12, 83)) [] (aX12_token (d - 1) (by omega) _ r0 p6.2 ρ hp8) dX12_product_14 lc_X12_63 li_X12_token ls_X12_token rfl hk5 rfl rfl (Nat.le_of_ble_eq_true rfl) (ao_hR (by omega) (by decide)) ?_
        refine ao_aload_n 0 dX12_product_17 rfl rfl ?_
        obtain ⟨he10, h⟩ := ao_some h
        obtain ⟨p9, hp9, h⟩ := ao_bind h
        have hAp9 : ao_A Γ uX12_simple (d - 1) (ao_dc ρ p9.2.2) (ao_ds ρ p9.2.2) [.ref (Γ.2.2.2 + r0)] (p8, ρ) (ao_ZV p9) := by
          refine ao_of (by decide) (ao_cat1 (Nat.le_of_ble_eq_true rfl)) (Nat.le_of_ble_eq_true rfl) ?_
          show ao_W Γ uX12_simple (ao_rm (d - 1) (ao_dc ρ p9.2.2) (ao_ds ρ p9.2.2)) (ao_Q Γ (ao_ZV p9) (ao_dc ρ p9.2.2) (ao_ds ρ p9.2.2)) (ao_dc ρ p9.2.2) (ao_ds ρ p9.2.2) 0 [some (.ref (Γ.2.2.2 + r0)), none, none] [] (p8, ρ)
          exact ih.2.2.2.2.2.2.2.2.2.2.2.2.1 (e - 1) (d - 1) _ _ (by omega) r0 p8 ρ _ hp9
        refine cx_callVv r0 12 (q := (RX12, TX12, 83)) [] hAp9 dX12_product_18 lc_X12_94 li_X12_simple ls_X12_simple rfl hk5 rfl rfl (Nat.le_of_ble_eq_true rfl) (ao_hR (by omega) (by decide)) (ao_leC ((mGE n).2.2.2.2.2.2.2.2.2.2.2.2.1 (e - 1) r0 p8 ρ _ hp9) (ao_csM h (fun _ h => (mGE n).2.2.2.2.2.2.2.2.2.2.2.1 e r0 p9.2.1 p9.2.2 _ h) (fun _ h => by cases h; exact ao_le_rf _))) (ao_leS ((mGE n).2.2.2.2.2.2.2.2.2.2.2.2.1 (e - 1) r0 p8 ρ _ hp9) (ao_csM h (fun _ h => (mGE n).2.2.2.2.2.2.2.2.2.2.2.1 e r0 p9.2.1 p9.2.2 _ h) (fun _ h => by cases h; exact ao_le_rf _))) (fun _ e11 => ?_) (fun _ e11 => ?_)
        · replace h := ao_csL h e11
          exact ih.2.2.2.2.2.2.2.2.2.2.2.1 e d MC MS hd r0 p9.2.1 p9.2.2 _ h
        · replace h := ao_csR h e11
          cases h
          exact cx_out rfl ⟨rfl, rfl⟩
    · intro e d MC MS hd r0 M ρ y h
      replace h := ao_ifF h (by decide)
      replace h := ao_ifF h (by decide)
      replace h := ao_ifF h (by decide)
      replace h := ao_ifF h (by decide)
      replace h := ao_ifF h (by decide)
      replace h := ao_ifF h (by decide)
      replace h := ao_ifF h (by decide)
      replace h := ao_ifF h (by decide)
      replace h := ao_ifF h (by decide)
      replace h := ao_ifF h (by decide)
      replace h := ao_ifF h (by decide)
      replace h := ao_ifT h rfl
      refine ao_aload_n 0 dX12_product_21 rfl rfl ?_
      refine ao_iconst (v := 5) dX12_product_22 (by decide) ?_
      refine ao_iconst (v := 0) dX12_product_23 (by decide) ?_
      refine ao_iconst (v := 0) dX12_product_24 (by decide) ?_
      obtain ⟨hk12, h⟩ := ao_some h
      obtain ⟨p13, hp13, h⟩ := ao_bind h
      refine an_callVi r0 12 (q := (RX12, TX12, 83)) [.int (5 : Int32), .int (0 : Int32), .int (0 : Int32)] (aX12_make (d - 1) (by omega) r0 (5 : Int32) (0 : Int32) (0 : Int32) M ρ hp13) dX12_product_25 lc_X12_87 li_X12_make ls_X12_make rfl hk12 rfl rfl (Nat.le_of_ble_eq_true rfl) (ao_hR (by omega) (by decide)) ?_
      refine an_topi (fun v14 hv14 => ?_)
      replace h := ao_letD h hv14
      refine ao_istore_n 1 (lo' := [some (.ref (Γ.2.2.2 + r0)), some (.int v14)]) dX12_product_28 rfl (Nat.le_of_ble_eq_true rfl) rfl ?_
      refine ao_goto 4 dX12_product_29 (by decide) ?_
      refine ao_loForget (lo' := [some (.ref (Γ.2.2.2 + r0)), none]) (ao_fgS (ao_fgN ao_fgZ)) ?_
      exact ih.2.2.2.2.2.2.2.2.2.2.1 e d MC MS hd r0 p13.2 ρ _ h
    · intro e d MC MS hd r0 M ρ y h
      replace h := ao_ifF h (by decide)
      replace h := ao_ifF h (by decide)
      replace h := ao_ifF h (by decide)
      replace h := ao_ifF h (by decide)
      replace h := ao_ifF h (by decide)
      replace h := ao_ifF h (by decide)
      replace h := ao_ifF h (by decide)
      replace h := ao_ifF h (by decide)
      replace h := ao_ifF h (by decide)
      replace h := ao_ifF h (by decide)
      replace h := ao_ifF h (by decide)
      replace h := ao_ifF h (by decide)
      replace h := ao_ifT h rfl
      refine ao_aload_n 0 dX12_simple_0 rfl rfl ?_
      obtain ⟨hk1, h⟩ := ao_some h
      refine an_getI r0 12 10 (q := (RX12, TX12, 83)) dX12_simple_1 rfl hk1 (Nat.le_of_ble_eq_true rfl) rfl lf_X12_49 ?_
      refine an_topi (fun v2 hv2 => ?_)
      replace h := ao_letD h hv2
      refine ao_istore_n 1 (lo' := [some (.ref (Γ.2.2.2 + r0)), some (.int v2), none]) dX12_simple_4 rfl (Nat.le_of_ble_eq_true rfl) rfl ?_
      refine ao_aload_n 0 dX12_simple_5 rfl rfl ?_
      refine an_getI r0 12 9 (q := (RX12, TX12, 83)) dX12_simple_6 rfl hk1 (Nat.le_of_ble_eq_true rfl) rfl lf_X12_42 ?_
      refine ao_iconst (v := 4) dX12_simple_9 (by decide) ?_
      refine ao_icmp_eq 29 dX12_simple_10 (by decide) (fun c3 => ?_) (fun c3 => ?_)
      · replace h := ao_ifT h c3
        exact ih.2.2.2.2.2.2.2.2.2.2.2.2.2.1 e d MC MS hd r0 v2 M ρ _ h
      · replace h := ao_ifF h c3
        refine ao_aload_n 0 dX12_simple_13 rfl rfl ?_
        refine an_getI r0 12 9 (q := (RX12, TX12, 83)) dX12_simple_14 rfl hk1 (Nat.le_of_ble_eq_true rfl) rfl lf_X12_42 ?_
        refine ao_iconst (v := 1) dX12_simple_17 (by decide) ?_
        refine ao_icmp_eq 29 dX12_simple_18 (by decide) (fun c4 => ?_) (fun c4 => ?_)
        · replace h := ao_ifT h c4
          exact ih.2.2.2.2.2.2.2.2.2.2.2.2.2.1 e d MC MS hd r0 v2 M ρ _ h
        · replace h := ao_ifF h c4
          refine ao_aload_n 0 dX12_simple_21 rfl rfl ?_
          refine an_getI r0 12 9 (q := (RX12, TX12, 83)) dX12_simple_22 rfl hk1 (Nat.le_of_ble_eq_true rfl) rfl lf_X12_42 ?_
          refine ao_iconst (v := 2) dX12_simple_25 (by decide) ?_
          refine ao_icmp_ne 68 dX12_simple_26 (by decide) (fun c5 => ?_) (fun c5 => ?_)
          · replace h := ao_ifF h c5
            refine ao_aload_n 0 dX12_simple_68 rfl rfl ?_
            refine ao_bipush (v := 40) dX12_simple_69 (by decide) ?_
            obtain ⟨p6, hp6, h⟩ := ao_bind h
            refine an_callVi r0 12 (q := (RX12, TX12, 83)) [.int (40 : Int32)] (aX12_isSign (d - 1) (by omega) r0 (40 : Int32) M ρ hp6) dX12_simple_71 lc_X12_60 li_X12_isSign ls_X12_isSign rfl hk1 rfl rfl (Nat.le_of_ble_eq_true rfl) (ao_hR (by omega) (by decide)) ?_
            refine ao_if_eq 108 dX12_simple_74 (by decide) (fun c7 => ?_) (fun c7 => ?_)
            · replace h := ao_ifT h c7
              refine ao_aload_n 0 dX12_simple_108 rfl rfl ?_
              refine ao_bipush (v := 45) dX12_simple_109 (by decide) ?_
              obtain ⟨p8, hp8, h⟩ := ao_bind h
              refine an_callVi r0 12 (q := (RX12, TX12, 83)) [.int (45 : Int32)] (aX12_isSign (d - 1) (by omega) r0 (45 : Int32) p6.2 ρ hp8) dX12_simple_111 lc_X12_60 li_X12_isSign ls_X12_isSign rfl hk1 rfl rfl (Nat.le_of_ble_eq_true rfl) (ao_hR (by omega) (by decide)) ?_
              refine ao_if_eq 151 dX12_simple_114 (by decide) (fun c9 => ?_) (fun c9 => ?_)
              · replace h := ao_ifT h c9
                refine ao_aload_n 0 dX12_simple_151 rfl rfl ?_
                refine ao_aload_n 0 dX12_simple_152 rfl rfl ?_
                refine an_getI r0 12 11 (q := (RX12, TX12, 83)) dX12_simple_153 rfl hk1 (Nat.le_of_ble_eq_true rfl) rfl lf_X12_39 ?_
                obtain ⟨p10, hp10, h⟩ := ao_bind h
                refine an_callVr r0 12 (q := (RX12, TX12, 83)) [.int (p8.2 r0 11)] (aX12_wrong (d - 1) (by omega) r0 (p8.2 r0 11) p8.2 ρ hp10) dX12_simple_156 lc_X12_70 li_X12_wrong ls_X12_wrong rfl hk1 rfl rfl (Nat.le_of_ble_eq_true rfl) (ao_hR (by omega) (by decide)) ?_
                obtain ⟨hk11, h⟩ := ao_some h
                cases h
                exact cx_athrow p10.1 11 (q := (RX11, TX11, 6)) dX12_simple_159 rfl hk11 rfl ⟨rfl, rfl⟩
              · replace h := ao_ifF h c9
                refine ao_aload_n 0 dX12_simple_117 rfl rfl ?_
                obtain ⟨p12, hp12, h⟩ := ao_bind h
                refine cx_callVv r0 12 (q := (RX12, TX12, 83)) [] (aX12_enter (d - 1) (by omega) n r0 p8.2 ρ hp12) dX12_simple_118 lc_X12_97 li_X12_enter ls_X12_enter rfl hk1 rfl rfl (Nat.le_of_ble_eq_true rfl) (ao_hR (by omega) (by decide)) (ao_leC (me_X12_enter n r0 p8.2 ρ hp12) (ao_csM h (fun _ h => (mGE n).2.2.2.2.2.2.2.2.2.2.2.2.2.2.2.2.2.2.1 e r0 v2 p12.2.1 p12.2.2 _ h) (fun _ h => by cases h; exact ao_le_rf _))) (ao_leS (me_X12_enter n r0 p8.2 ρ hp12) (ao_csM h (fun _ h => (mGE n).2.2.2.2.2.2.2.2.2.2.2.2.2.2.2.2.2.2.1 e r0 v2 p12.2.1 p12.2.2 _ h) (fun _ h => by cases h; exact ao_le_rf _))) (fun _ e13 => ?_) (fun _ e13 => ?_)
                · replace h := ao_csL h e13
                  exact ih.2.2.2.2.2.2.2.2.2.2.2.2.2.2.2.2.2.2.1 e d MC MS hd r0 v2 p12.2.1 p12.2.2 _ h
                · replace h := ao_csR h e13
                  cases h
                  exact cx_out rfl ⟨rfl, rfl⟩
            · replace h := ao_ifF h c7
              refine ao_aload_n 0 dX12_simple_77 rfl rfl ?_
              obtain ⟨p14, hp14, h⟩ := ao_bind h
              refine cx_callVv r0 12 (q := (RX12, TX12, 83)) [] (aX12_enter (d - 1) (by omega) n r0 p6.2 ρ hp14) dX12_simple_78 lc_X12_97 li_X12_enter ls_X12_enter rfl hk1 rfl rfl (Nat.le_of_ble_eq_true rfl) (ao_hR (by omega) (by decide)) (ao_leC (me_X12_enter n r0 p6.2 ρ hp14) (ao_csM h (fun _ h => (mGE n).2.2.2.2.2.2.2.2.2.2.2.2.2.2.2.1 e r0 v2 p14.2.1 p14.2.2 _ h) (fun _ h => by cases h; exact ao_le_rf _))) (ao_leS (me_X12_enter n r0 p6.2 ρ hp14) (ao_csM h (fun _ h => (mGE n).2.2.2.2.2.2.2.2.2.2.2.2.2.2.2.1 e r0 v2 p14.2.1 p14.2.2 _ h) (fun _ h => by cases h; exact ao_le_rf _))) (fun _ e15 => ?_) (fun _ e15 => ?_)
              · replace h := ao_csL h e15
                exact ih.2.2.2.2.2.2.2.2.2.2.2.2.2.2.2.1 e d MC MS hd r0 v2 p14.2.1 p14.2.2 _ h
              · replace h := ao_csR h e15
                cases h
                exact cx_out rfl ⟨rfl, rfl⟩
          · replace h := ao_ifT h c5
            exact ih.2.2.2.2.2.2.2.2.2.2.2.2.2.1 e d MC MS hd r0 v2 M ρ _ h
    · intro e d MC MS hd r0 x1 M ρ y h
      replace h := ao_ifF h (by decide)
      replace h := ao_ifF h (by decide)
      replace h := ao_ifF h (by decide)
      replace h := ao_ifF h (by decide)
      replace h := ao_ifF h (by decide)
      replace h := ao_ifF h (by decide)
      replace h := ao_ifF h (by decide)
      replace h := ao_ifF h (by decide)
      replace h := ao_ifF h (by decide)
      replace h := ao_ifF h (by decide)
      replace h := ao_ifF h (by decide)
      replace h := ao_ifF h (by decide)
      replace h := ao_ifF h (by decide)
      replace h := ao_ifT h rfl
      refine ao_aload_n 0 dX12_simple_29 rfl rfl ?_
      refine ao_aload_n 0 dX12_simple_30 rfl rfl ?_
      obtain ⟨hk16, h⟩ := ao_some h
      refine an_getI r0 12 9 (q := (RX12, TX12, 83)) dX12_simple_31 rfl hk16 (Nat.le_of_ble_eq_true rfl) rfl lf_X12_42 ?_
      refine ao_iconst (v := 4) dX12_simple_34 (by decide) ?_
      refine ao_icmp_ne 42 dX12_simple_35 (by decide) (fun c17 => ?_) (fun c17 => ?_)
      · replace h := ao_ifF h c17
        refine ao_aload_n 0 dX12_simple_42 rfl rfl ?_
        refine an_getI r0 12 9 (q := (RX12, TX12, 83)) dX12_simple_43 rfl hk16 (Nat.le_of_ble_eq_true rfl) rfl lf_X12_42 ?_
        refine ao_iconst (v := 1) dX12_simple_46 (by decide) ?_
        refine ao_icmp_ne 54 dX12_simple_47 (by decide) (fun c18 => ?_) (fun c18 => ?_)
        · replace h := ao_ifF h c18
          refine ao_iconst (v := 1) dX12_simple_54 (by decide) ?_
          exact ih.2.2.2.2.2.2.2.2.2.2.2.2.2.2.1 e d MC MS hd r0 x1 (1 : Int32) r0 M ρ _ h
        · replace h := ao_ifT h c18
          refine ao_iconst (v := 2) dX12_simple_50 (by decide) ?_
          refine ao_goto 55 dX12_simple_51 (by decide) ?_
          exact ih.2.2.2.2.2.2.2.2.2.2.2.2.2.2.1 e d MC MS hd r0 x1 (2 : Int32) r0 M ρ _ h
      · replace h := ao_ifT h c17
        refine ao_iconst (v := 0) dX12_simple_38 (by decide) ?_
        refine ao_goto 55 dX12_simple_39 (by decide) ?_
        exact ih.2.2.2.2.2.2.2.2.2.2.2.2.2.2.1 e d MC MS hd r0 x1 (0 : Int32) r0 M ρ _ h
    · intro e d MC MS hd r0 x1 s0 q1 M ρ y h
      replace h := ao_ifF h (by decide)
      replace h := ao_ifF h (by decide)
      replace h := ao_ifF h (by decide)
      replace h := ao_ifF h (by decide)
      replace h := ao_ifF h (by decide)
      replace h := ao_ifF h (by decide)
      replace h := ao_ifF h (by decide)
      replace h := ao_ifF h (by decide)
      replace h := ao_ifF h (by decide)
      replace h := ao_ifF h (by decide)
      replace h := ao_ifF h (by decide)
      replace h := ao_ifF h (by decide)
      replace h := ao_ifF h (by decide)
      replace h := ao_ifF h (by decide)
      replace h := ao_ifT h rfl
      refine ao_iload_n 1 dX12_simple_55 rfl rfl ?_
      refine ao_iconst (v := 0) dX12_simple_56 (by decide) ?_
      obtain ⟨hk19, h⟩ := ao_some h
      obtain ⟨p20, hp20, h⟩ := ao_bind h
      refine an_callVi q1 12 (q := (RX12, TX12, 83)) [.int s0, .int x1, .int (0 : Int32)] (aX12_make (d - 1) (by omega) q1 s0 x1 (0 : Int32) M ρ hp20) dX12_simple_57 lc_X12_87 li_X12_make ls_X12_make rfl hk19 rfl rfl (Nat.le_of_ble_eq_true rfl) (ao_hR (by omega) (by decide)) ?_
      refine an_topi (fun v21 hv21 => ?_)
      replace h := ao_letD h hv21
      refine ao_istore_n 2 (lo' := [some (.ref (Γ.2.2.2 + r0)), some (.int x1), some (.int v21)]) dX12_simple_60 rfl (Nat.le_of_ble_eq_true rfl) rfl ?_
      refine ao_aload_n 0 dX12_simple_61 rfl rfl ?_
      obtain ⟨hk22, h⟩ := ao_some h
      obtain ⟨p23, hp23, h⟩ := ao_bind h
      refine an_callVv r0 12 (q := (RX12, TX12, 83)) [] (aX12_token (d - 1) (by omega) _ r0 p20.2 ρ hp23) dX12_simple_62 lc_X12_63 li_X12_token ls_X12_token rfl hk22 rfl rfl (Nat.le_of_ble_eq_true rfl) (ao_hR (by omega) (by decide)) ?_
      refine ao_goto 160 dX12_simple_65 (by decide) ?_
      cases h
      exact ao_return dX12_simple_160 rfl ⟨rfl, rfl⟩
    · intro e d MC MS hd r0 x1 M ρ y h
      replace h := ao_ifF h (by decide)
      replace h := ao_ifF h (by decide)
      replace h := ao_ifF h (by decide)
      replace h := ao_ifF h (by decide)
      replace h := ao_ifF h (by decide)
      replace h := ao_ifF h (by decide)
      replace h := ao_ifF h (by decide)
      replace h := ao_ifF h (by decide)
      replace h := ao_ifF h (by decide)
      replace h := ao_ifF h (by decide)
      replace h := ao_ifF h (by decide)
      replace h := ao_ifF h (by decide)
      replace h := ao_ifF h (by decide)
      replace h := ao_ifF h (by decide)
      replace h := ao_ifF h (by decide)
      replace h := ao_ifT h rfl
      refine ao_aload_n 0 dX12_simple_81 rfl rfl ?_
      obtain ⟨hk24, h⟩ := ao_some h
      obtain ⟨p25, hp25, h⟩ := ao_bind h
      refine an_callVv r0 12 (q := (RX12, TX12, 83)) [] (aX12_token (d - 1) (by omega) _ r0 M ρ hp25) dX12_simple_82 lc_X12_63 li_X12_token ls_X12_token rfl hk24 rfl rfl (Nat.le_of_ble_eq_true rfl) (ao_hR (by omega) (by decide)) ?_
      refine ao_aload_n 0 dX12_simple_85 rfl rfl ?_
      obtain ⟨he27, h⟩ := ao_some h
      obtain ⟨p26, hp26, h⟩ := ao_bind h
      have hAp26 : ao_A Γ uX12_expression (d - 1) (ao_dc ρ p26.2.2) (ao_ds ρ p26.2.2) [.ref (Γ.2.2.2 + r0)] (p25, ρ) (ao_ZV p26) := by
        refine ao_of (by decide) (ao_cat1 (Nat.le_of_ble_eq_true rfl)) (Nat.le_of_ble_eq_true rfl) ?_
        show ao_W Γ uX12_expression (ao_rm (d - 1) (ao_dc ρ p26.2.2) (ao_ds ρ p26.2.2)) (ao_Q Γ (ao_ZV p26) (ao_dc ρ p26.2.2) (ao_ds ρ p26.2.2)) (ao_dc ρ p26.2.2) (ao_ds ρ p26.2.2) 0 [some (.ref (Γ.2.2.2 + r0)), none, none] [] (p25, ρ)
        exact ih.1 (e - 1) (d - 1) _ _ (by omega) r0 p25 ρ _ hp26
      refine cx_callVv r0 12 (q := (RX12, TX12, 83)) [] hAp26 dX12_simple_86 lc_X12_100 li_X12_expression ls_X12_expression rfl hk24 rfl rfl (Nat.le_of_ble_eq_true rfl) (ao_hR (by omega) (by decide)) (ao_leC ((mGE n).1 (e - 1) r0 p25 ρ _ hp26) (ao_csM h (fun _ h => (mGE n).2.2.2.2.2.2.2.2.2.2.2.2.2.2.2.2.1 e r0 x1 p26.2.1 p26.2.2 _ h) (fun _ h => by cases h; exact ao_le_rf _))) (ao_leS ((mGE n).1 (e - 1) r0 p25 ρ _ hp26) (ao_csM h (fun _ h => (mGE n).2.2.2.2.2.2.2.2.2.2.2.2.2.2.2.2.1 e r0 x1 p26.2.1 p26.2.2 _ h) (fun _ h => by cases h; exact ao_le_rf _))) (fun _ e28 => ?_) (fun _ e28 => ?_)
      · replace h := ao_csL h e28
        exact ih.2.2.2.2.2.2.2.2.2.2.2.2.2.2.2.2.1 e d MC MS hd r0 x1 p26.2.1 p26.2.2 _ h
      · replace h := ao_csR h e28
        cases h
        exact cx_out rfl ⟨rfl, rfl⟩
    · intro e d MC MS hd r0 x1 M ρ y h
      replace h := ao_ifF h (by decide)
      replace h := ao_ifF h (by decide)
      replace h := ao_ifF h (by decide)
      replace h := ao_ifF h (by decide)
      replace h := ao_ifF h (by decide)
      replace h := ao_ifF h (by decide)
      replace h := ao_ifF h (by decide)
      replace h := ao_ifF h (by decide)
      replace h := ao_ifF h (by decide)
      replace h := ao_ifF h (by decide)
      replace h := ao_ifF h (by decide)
      replace h := ao_ifF h (by decide)
      replace h := ao_ifF h (by decide)
      replace h := ao_ifF h (by decide)
      replace h := ao_ifF h (by decide)
      replace h := ao_ifF h (by decide)
      replace h := ao_ifT h rfl
      refine ao_aload_n 0 dX12_simple_89 rfl rfl ?_
      refine ao_bipush (v := 41) dX12_simple_90 (by decide) ?_
      obtain ⟨hk29, h⟩ := ao_some h
      obtain ⟨p30, hp30, h⟩ := ao_bind h
      refine cx_callVv r0 12 (q := (RX12, TX12, 83)) [.int (41 : Int32)] (aX12_need (d - 1) (by omega) n r0 (41 : Int32) M ρ hp30) dX12_simple_92 lc_X12_103 li_X12_need ls_X12_need rfl hk29 rfl rfl (Nat.le_of_ble_eq_true rfl) (ao_hR (by omega) (by decide)) (ao_leC (me_X12_need n r0 (41 : Int32) M ρ hp30) (ao_csM h (fun _ h => (mGE n).2.2.2.2.2.2.2.2.2.2.2.2.2.2.2.2.2.1 e r0 x1 p30.2.1 p30.2.2 _ h) (fun _ h => by cases h; exact ao_le_rf _))) (ao_leS (me_X12_need n r0 (41 : Int32) M ρ hp30) (ao_csM h (fun _ h => (mGE n).2.2.2.2.2.2.2.2.2.2.2.2.2.2.2.2.2.1 e r0 x1 p30.2.1 p30.2.2 _ h) (fun _ h => by cases h; exact ao_le_rf _))) (fun _ e31 => ?_) (fun _ e31 => ?_)
      · replace h := ao_csL h e31
        exact ih.2.2.2.2.2.2.2.2.2.2.2.2.2.2.2.2.2.1 e d MC MS hd r0 x1 p30.2.1 p30.2.2 _ h
      · replace h := ao_csR h e31
        cases h
        exact cx_out rfl ⟨rfl, rfl⟩
    · intro e d MC MS hd r0 x1 M ρ y h
      replace h := ao_ifF h (by decide)
      replace h := ao_ifF h (by decide)
      replace h := ao_ifF h (by decide)
      replace h := ao_ifF h (by decide)
      replace h := ao_ifF h (by decide)
      replace h := ao_ifF h (by decide)
      replace h := ao_ifF h (by decide)
      replace h := ao_ifF h (by decide)
      replace h := ao_ifF h (by decide)
      replace h := ao_ifF h (by decide)
      replace h := ao_ifF h (by decide)
      replace h := ao_ifF h (by decide)
      replace h := ao_ifF h (by decide)
      replace h := ao_ifF h (by decide)
      replace h := ao_ifF h (by decide)
      replace h := ao_ifF h (by decide)
      replace h := ao_ifF h (by decide)
      replace h := ao_ifT h rfl
      refine ao_aload_n 0 dX12_simple_95 rfl rfl ?_
      refine ao_dup dX12_simple_96 rfl ?_
      obtain ⟨hk32, h⟩ := ao_some h
      refine an_getI r0 12 14 (q := (RX12, TX12, 83)) dX12_simple_97 rfl hk32 (Nat.le_of_ble_eq_true rfl) rfl lf_X12_81 ?_
      refine ao_iconst (v := 1) dX12_simple_100 (by decide) ?_
      refine ao_isub dX12_simple_101 ?_
      refine an_putI r0 12 14 (q := (RX12, TX12, 83)) dX12_simple_102 rfl hk32 (Nat.le_of_ble_eq_true rfl) lf_X12_81 rfl rfl rfl rfl (fun M33 hM33 => ?_)
      replace h := ao_letD h hM33
      refine ao_goto 160 dX12_simple_105 (by decide) ?_
      cases h
      exact ao_return dX12_simple_160 rfl ⟨rfl, rfl⟩
    · intro e d MC MS hd r0 x1 M ρ y h
      replace h := ao_ifF h (by decide)
      replace h := ao_ifF h (by decide)
      replace h := ao_ifF h (by decide)
      replace h := ao_ifF h (by decide)
      replace h := ao_ifF h (by decide)
      replace h := ao_ifF h (by decide)
      replace h := ao_ifF h (by decide)
      replace h := ao_ifF h (by decide)
      replace h := ao_ifF h (by decide)
      replace h := ao_ifF h (by decide)
      replace h := ao_ifF h (by decide)
      replace h := ao_ifF h (by decide)
      replace h := ao_ifF h (by decide)
      replace h := ao_ifF h (by decide)
      replace h := ao_ifF h (by decide)
      replace h := ao_ifF h (by decide)
      replace h := ao_ifF h (by decide)
      replace h := ao_ifF h (by decide)
      replace h := ao_ifT h rfl
      refine ao_aload_n 0 dX12_simple_121 rfl rfl ?_
      obtain ⟨hk34, h⟩ := ao_some h
      obtain ⟨p35, hp35, h⟩ := ao_bind h
      refine an_callVv r0 12 (q := (RX12, TX12, 83)) [] (aX12_token (d - 1) (by omega) _ r0 M ρ hp35) dX12_simple_122 lc_X12_63 li_X12_token ls_X12_token rfl hk34 rfl rfl (Nat.le_of_ble_eq_true rfl) (ao_hR (by omega) (by decide)) ?_
      refine ao_aload_n 0 dX12_simple_125 rfl rfl ?_
      obtain ⟨he37, h⟩ := ao_some h
      obtain ⟨p36, hp36, h⟩ := ao_bind h
      have hAp36 : ao_A Γ uX12_simple (d - 1) (ao_dc ρ p36.2.2) (ao_ds ρ p36.2.2) [.ref (Γ.2.2.2 + r0)] (p35, ρ) (ao_ZV p36) := by
        refine ao_of (by decide) (ao_cat1 (Nat.le_of_ble_eq_true rfl)) (Nat.le_of_ble_eq_true rfl) ?_
        show ao_W Γ uX12_simple (ao_rm (d - 1) (ao_dc ρ p36.2.2) (ao_ds ρ p36.2.2)) (ao_Q Γ (ao_ZV p36) (ao_dc ρ p36.2.2) (ao_ds ρ p36.2.2)) (ao_dc ρ p36.2.2) (ao_ds ρ p36.2.2) 0 [some (.ref (Γ.2.2.2 + r0)), none, none] [] (p35, ρ)
        exact ih.2.2.2.2.2.2.2.2.2.2.2.2.1 (e - 1) (d - 1) _ _ (by omega) r0 p35 ρ _ hp36
      refine cx_callVv r0 12 (q := (RX12, TX12, 83)) [] hAp36 dX12_simple_126 lc_X12_94 li_X12_simple ls_X12_simple rfl hk34 rfl rfl (Nat.le_of_ble_eq_true rfl) (ao_hR (by omega) (by decide)) (ao_leC ((mGE n).2.2.2.2.2.2.2.2.2.2.2.2.1 (e - 1) r0 p35 ρ _ hp36) (ao_csM h (fun _ h => (mGE n).2.2.2.2.2.2.2.2.2.2.2.2.2.2.2.2.2.2.2 e r0 x1 p36.2.1 p36.2.2 _ h) (fun _ h => by cases h; exact ao_le_rf _))) (ao_leS ((mGE n).2.2.2.2.2.2.2.2.2.2.2.2.1 (e - 1) r0 p35 ρ _ hp36) (ao_csM h (fun _ h => (mGE n).2.2.2.2.2.2.2.2.2.2.2.2.2.2.2.2.2.2.2 e r0 x1 p36.2.1 p36.2.2 _ h) (fun _ h => by cases h; exact ao_le_rf _))) (fun _ e38 => ?_) (fun _ e38 => ?_)
      · replace h := ao_csL h e38
        exact ih.2.2.2.2.2.2.2.2.2.2.2.2.2.2.2.2.2.2.2 e d MC MS hd r0 x1 p36.2.1 p36.2.2 _ h
      · replace h := ao_csR h e38
        cases h
        exact cx_out rfl ⟨rfl, rfl⟩
    · intro e d MC MS hd r0 x1 M ρ y h
      replace h := ao_ifF h (by decide)
      replace h := ao_ifF h (by decide)
      replace h := ao_ifF h (by decide)
      replace h := ao_ifF h (by decide)
      replace h := ao_ifF h (by decide)
      replace h := ao_ifF h (by decide)
      replace h := ao_ifF h (by decide)
      replace h := ao_ifF h (by decide)
      replace h := ao_ifF h (by decide)
      replace h := ao_ifF h (by decide)
      replace h := ao_ifF h (by decide)
      replace h := ao_ifF h (by decide)
      replace h := ao_ifF h (by decide)
      replace h := ao_ifF h (by decide)
      replace h := ao_ifF h (by decide)
      replace h := ao_ifF h (by decide)
      replace h := ao_ifF h (by decide)
      replace h := ao_ifF h (by decide)
      replace h := ao_ifF h (by decide)
      replace h := ao_ifT h rfl
      refine ao_aload_n 0 dX12_simple_129 rfl rfl ?_
      refine ao_dup dX12_simple_130 rfl ?_
      obtain ⟨hk39, h⟩ := ao_some h
      refine an_getI r0 12 14 (q := (RX12, TX12, 83)) dX12_simple_131 rfl hk39 (Nat.le_of_ble_eq_true rfl) rfl lf_X12_81 ?_
      refine ao_iconst (v := 1) dX12_simple_134 (by decide) ?_
      refine ao_isub dX12_simple_135 ?_
      refine an_putI r0 12 14 (q := (RX12, TX12, 83)) dX12_simple_136 rfl hk39 (Nat.le_of_ble_eq_true rfl) lf_X12_81 rfl rfl rfl rfl (fun M40 hM40 => ?_)
      replace h := ao_letD h hM40
      refine ao_aload_n 0 dX12_simple_139 rfl rfl ?_
      refine ao_bipush (v := 6) dX12_simple_140 (by decide) ?_
      refine ao_iconst (v := 0) dX12_simple_142 (by decide) ?_
      refine ao_iconst (v := 0) dX12_simple_143 (by decide) ?_
      obtain ⟨p41, hp41, h⟩ := ao_bind h
      refine an_callVi r0 12 (q := (RX12, TX12, 83)) [.int (6 : Int32), .int (0 : Int32), .int (0 : Int32)] (aX12_make (d - 1) (by omega) r0 (6 : Int32) (0 : Int32) (0 : Int32) M40 ρ hp41) dX12_simple_144 lc_X12_87 li_X12_make ls_X12_make rfl hk39 rfl rfl (Nat.le_of_ble_eq_true rfl) (ao_hR (by omega) (by decide)) ?_
      refine an_topi (fun v42 hv42 => ?_)
      replace h := ao_letD h hv42
      refine ao_istore_n 2 (lo' := [some (.ref (Γ.2.2.2 + r0)), some (.int x1), some (.int v42)]) dX12_simple_147 rfl (Nat.le_of_ble_eq_true rfl) rfl ?_
      refine ao_goto 160 dX12_simple_148 (by decide) ?_
      cases h
      exact ao_return dX12_simple_160 rfl ⟨rfl, rfl⟩
def gX12_expression (n : Nat) (r0 : Nat) (M : ao_M) (ρ : ao_H) : Option ((Int32 ⊕ String) × ao_S) := fGE n 64 0 r0 0 0 0 M ρ
theorem me_X12_expression (n : Nat) (r0 : Nat) (M : ao_M) (ρ : ao_H) {y : (Int32 ⊕ String) × ao_S} (h : gX12_expression n r0 M ρ = some y) : ao_le ρ y.2.2 := (mGE n).1 64 r0 M ρ y h
set_option maxRecDepth 100000 in
set_option maxHeartbeats 4000000 in
theorem aX12_expression {Γ : ao_C} (d : Nat) (hd : 72 ≤ d) (n : Nat) (r0 : Nat) (M : ao_M) (ρ : ao_H) {y : (Int32 ⊕ String) × ao_S} (h : gX12_expression n r0 M ρ = some y) : ao_A Γ uX12_expression d (ao_dc ρ y.2.2) (ao_ds ρ y.2.2) [.ref (Γ.2.2.2 + r0)] (M, ρ) (ao_ZV y) := by
  refine ao_of (by decide) (ao_cat1 (Nat.le_of_ble_eq_true rfl)) (Nat.le_of_ble_eq_true rfl) ?_
  show ao_W Γ uX12_expression (ao_rm d (ao_dc ρ y.2.2) (ao_ds ρ y.2.2)) (ao_Q Γ (ao_ZV y) (ao_dc ρ y.2.2) (ao_ds ρ y.2.2)) (ao_dc ρ y.2.2) (ao_ds ρ y.2.2) 0 [some (.ref (Γ.2.2.2 + r0)), none, none] [] (M, ρ)
  exact (wGE n).1 64 d _ _ hd r0 M ρ y h
def gX12_sum (n : Nat) (r0 : Nat) (M : ao_M) (ρ : ao_H) : Option ((Int32 ⊕ String) × ao_S) := fGE n 64 1000 r0 0 0 0 M ρ
theorem me_X12_sum (n : Nat) (r0 : Nat) (M : ao_M) (ρ : ao_H) {y : (Int32 ⊕ String) × ao_S} (h : gX12_sum n r0 M ρ = some y) : ao_le ρ y.2.2 := (mGE n).2.2.2.2.1 64 r0 M ρ y h
set_option maxRecDepth 100000 in
set_option maxHeartbeats 4000000 in
theorem aX12_sum {Γ : ao_C} (d : Nat) (hd : 72 ≤ d) (n : Nat) (r0 : Nat) (M : ao_M) (ρ : ao_H) {y : (Int32 ⊕ String) × ao_S} (h : gX12_sum n r0 M ρ = some y) : ao_A Γ uX12_sum d (ao_dc ρ y.2.2) (ao_ds ρ y.2.2) [.ref (Γ.2.2.2 + r0)] (M, ρ) (ao_ZV y) := by
  refine ao_of (by decide) (ao_cat1 (Nat.le_of_ble_eq_true rfl)) (Nat.le_of_ble_eq_true rfl) ?_
  show ao_W Γ uX12_sum (ao_rm d (ao_dc ρ y.2.2) (ao_ds ρ y.2.2)) (ao_Q Γ (ao_ZV y) (ao_dc ρ y.2.2) (ao_ds ρ y.2.2)) (ao_dc ρ y.2.2) (ao_ds ρ y.2.2) 0 [some (.ref (Γ.2.2.2 + r0)), none, none] [] (M, ρ)
  exact (wGE n).2.2.2.2.1 64 d _ _ hd r0 M ρ y h
def gX12_product (n : Nat) (r0 : Nat) (M : ao_M) (ρ : ao_H) : Option ((Int32 ⊕ String) × ao_S) := fGE n 64 2000 r0 0 0 0 M ρ
theorem me_X12_product (n : Nat) (r0 : Nat) (M : ao_M) (ρ : ao_H) {y : (Int32 ⊕ String) × ao_S} (h : gX12_product n r0 M ρ = some y) : ao_le ρ y.2.2 := (mGE n).2.2.2.2.2.2.2.2.2.1 64 r0 M ρ y h
set_option maxRecDepth 100000 in
set_option maxHeartbeats 4000000 in
theorem aX12_product {Γ : ao_C} (d : Nat) (hd : 72 ≤ d) (n : Nat) (r0 : Nat) (M : ao_M) (ρ : ao_H) {y : (Int32 ⊕ String) × ao_S} (h : gX12_product n r0 M ρ = some y) : ao_A Γ uX12_product d (ao_dc ρ y.2.2) (ao_ds ρ y.2.2) [.ref (Γ.2.2.2 + r0)] (M, ρ) (ao_ZV y) := by
  refine ao_of (by decide) (ao_cat1 (Nat.le_of_ble_eq_true rfl)) (Nat.le_of_ble_eq_true rfl) ?_
  show ao_W Γ uX12_product (ao_rm d (ao_dc ρ y.2.2) (ao_ds ρ y.2.2)) (ao_Q Γ (ao_ZV y) (ao_dc ρ y.2.2) (ao_ds ρ y.2.2)) (ao_dc ρ y.2.2) (ao_ds ρ y.2.2) 0 [some (.ref (Γ.2.2.2 + r0)), none] [] (M, ρ)
  exact (wGE n).2.2.2.2.2.2.2.2.2.1 64 d _ _ hd r0 M ρ y h
def gX12_simple (n : Nat) (r0 : Nat) (M : ao_M) (ρ : ao_H) : Option ((Int32 ⊕ String) × ao_S) := fGE n 64 3000 r0 0 0 0 M ρ
theorem me_X12_simple (n : Nat) (r0 : Nat) (M : ao_M) (ρ : ao_H) {y : (Int32 ⊕ String) × ao_S} (h : gX12_simple n r0 M ρ = some y) : ao_le ρ y.2.2 := (mGE n).2.2.2.2.2.2.2.2.2.2.2.2.1 64 r0 M ρ y h
set_option maxRecDepth 100000 in
set_option maxHeartbeats 4000000 in
theorem aX12_simple {Γ : ao_C} (d : Nat) (hd : 72 ≤ d) (n : Nat) (r0 : Nat) (M : ao_M) (ρ : ao_H) {y : (Int32 ⊕ String) × ao_S} (h : gX12_simple n r0 M ρ = some y) : ao_A Γ uX12_simple d (ao_dc ρ y.2.2) (ao_ds ρ y.2.2) [.ref (Γ.2.2.2 + r0)] (M, ρ) (ao_ZV y) := by
  refine ao_of (by decide) (ao_cat1 (Nat.le_of_ble_eq_true rfl)) (Nat.le_of_ble_eq_true rfl) ?_
  show ao_W Γ uX12_simple (ao_rm d (ao_dc ρ y.2.2) (ao_ds ρ y.2.2)) (ao_Q Γ (ao_ZV y) (ao_dc ρ y.2.2) (ao_ds ρ y.2.2)) (ao_dc ρ y.2.2) (ao_ds ρ y.2.2) 0 [some (.ref (Γ.2.2.2 + r0)), none, none] [] (M, ρ)
  exact (wGE n).2.2.2.2.2.2.2.2.2.2.2.2.1 64 d _ _ hd r0 M ρ y h







abbrev uX0_maskAhead : ao_Mi := (yX0_maskAhead, cX0_maskAhead, 5, (some .int), [])
def fX0_maskAhead : Nat → Nat → Nat → Int32 → Int32 → Int32 → Int32 →  ao_M → ao_H → Option (Int32 × ao_M)
  | 0, _, _, _, _, _, _, _, _ => none
  | n + 1, pc, r0, x1, x2, x3, x4, M, ρ =>
    if pc = 0 then
      fX0_maskAhead n 5 r0 x1 x2 (0 : Int32) (0 : Int32) M ρ
    else if pc = 5 then
      if x1 ≤ x4 then
        some (x3, M)
      else
        if (14 : Int32) ≤ x4 then
          some (x3, M)
        else
          if ρ.2.1 r0 = 16 then
          (gX6_isAhead r0 x4 x2 M ρ).bind fun p4 =>
          if p4.1 = 0 then
            fX0_maskAhead n 35 r0 x1 x2 x3 x4 p4.2 ρ
          else
            ao_let (x3 ||| ((1 : Int32) <<< (x4 &&& 31))) fun v6 =>
            fX0_maskAhead n 35 r0 x1 x2 v6 x4 p4.2 ρ
          else none
    else if pc = 35 then
      ao_let (x4 + (1 : Int32)) fun v7 =>
      fX0_maskAhead n 5 r0 x1 x2 x3 v7 M ρ
    else none
def gX0_maskAhead (n : Nat) (r0 : Nat) (x1 : Int32) (x2 : Int32) (M : ao_M) (ρ : ao_H) : Option (Int32 × ao_M) := fX0_maskAhead n 0 r0 x1 x2 0 0 M ρ
set_option maxRecDepth 100000 in
set_option maxHeartbeats 4000000 in
theorem wX0_maskAhead {Γ : ao_C} {ρ : ao_H} (d : Nat) (hd : 1 ≤ d) : ∀ n : Nat, (∀ (r0 : Nat) (x1 : Int32) (x2 : Int32) (M : ao_M) (y : Int32 × ao_M), fX0_maskAhead n 0 r0 x1 x2 0 0 M ρ = some y → ao_W Γ uX0_maskAhead (ao_rm d 0 0) (ao_Q Γ (ao_PI ρ y) 0 0) 0 0 0 [some (.ref (Γ.2.2.2 + r0)), some (.int x1), some (.int x2), none, none] [] (M, ρ)) ∧ (∀ (r0 : Nat) (x1 : Int32) (x2 : Int32) (x3 : Int32) (x4 : Int32) (M : ao_M) (y : Int32 × ao_M), fX0_maskAhead n 5 r0 x1 x2 x3 x4 M ρ = some y → ao_W Γ uX0_maskAhead (ao_rm d 0 0) (ao_Q Γ (ao_PI ρ y) 0 0) 0 0 5 [some (.ref (Γ.2.2.2 + r0)), some (.int x1), some (.int x2), some (.int x3), some (.int x4)] [] (M, ρ)) ∧ (∀ (r0 : Nat) (x1 : Int32) (x2 : Int32) (x3 : Int32) (x4 : Int32) (M : ao_M) (y : Int32 × ao_M), fX0_maskAhead n 35 r0 x1 x2 x3 x4 M ρ = some y → ao_W Γ uX0_maskAhead (ao_rm d 0 0) (ao_Q Γ (ao_PI ρ y) 0 0) 0 0 35 [some (.ref (Γ.2.2.2 + r0)), some (.int x1), some (.int x2), some (.int x3), some (.int x4)] [] (M, ρ)) := by
  intro n
  induction n with
  | zero => exact ⟨fun _ _ _ _ _ h => ao_no h, fun _ _ _ _ _ _ _ h => ao_no h, fun _ _ _ _ _ _ _ h => ao_no h⟩
  | succ n ih =>
    refine ⟨?_, ?_, ?_⟩
    · intro r0 x1 x2 M y h
      replace h := ao_ifT h rfl
      refine ao_iconst (v := 0) dX0_maskAhead_0 (by decide) ?_
      refine ao_istore_n 3 (lo' := [some (.ref (Γ.2.2.2 + r0)), some (.int x1), some (.int x2), some (.int (0 : Int32)), none]) dX0_maskAhead_1 rfl (Nat.le_of_ble_eq_true rfl) rfl ?_
      refine ao_iconst (v := 0) dX0_maskAhead_2 (by decide) ?_
      refine ao_istore 4 (lo' := [some (.ref (Γ.2.2.2 + r0)), some (.int x1), some (.int x2), some (.int (0 : Int32)), some (.int (0 : Int32))]) dX0_maskAhead_3 (Nat.le_of_ble_eq_true rfl) rfl ?_
      exact ih.2.1 r0 x1 x2 (0 : Int32) (0 : Int32) M _ h
    · intro r0 x1 x2 x3 x4 M y h
      replace h := ao_ifF h (by decide)
      replace h := ao_ifT h rfl
      refine ao_iload 4 dX0_maskAhead_5 rfl ?_
      refine ao_iload_n 1 dX0_maskAhead_7 rfl rfl ?_
      refine ao_icmp_ge 41 dX0_maskAhead_8 (by decide) (fun c1 => ?_) (fun c1 => ?_)
      · replace h := ao_ifT h c1
        refine ao_iload_n 3 dX0_maskAhead_41 rfl rfl ?_
        cases h
        exact ao_ireturn dX0_maskAhead_42 rfl rfl ⟨rfl, rfl⟩
      · replace h := ao_ifF h c1
        refine ao_iload 4 dX0_maskAhead_11 rfl ?_
        refine ao_bipush (v := 14) dX0_maskAhead_13 (by decide) ?_
        refine ao_icmp_ge 41 dX0_maskAhead_15 (by decide) (fun c2 => ?_) (fun c2 => ?_)
        · replace h := ao_ifT h c2
          refine ao_iload_n 3 dX0_maskAhead_41 rfl rfl ?_
          cases h
          exact ao_ireturn dX0_maskAhead_42 rfl rfl ⟨rfl, rfl⟩
        · replace h := ao_ifF h c2
          refine ao_aload_n 0 dX0_maskAhead_18 rfl rfl ?_
          refine ao_iload 4 dX0_maskAhead_19 rfl ?_
          refine ao_iload_n 2 dX0_maskAhead_21 rfl rfl ?_
          obtain ⟨hk3, h⟩ := ao_some h
          obtain ⟨p4, hp4, h⟩ := ao_bind h
          refine an_callVi r0 6 (q := (RX6, TX6, 11)) [.int x4, .int x2] (aX6_isAhead (d - 1) (by omega) r0 x4 x2 M ρ hp4) dX0_maskAhead_22 lc_X0_54 li_X6_isAhead ls_X6_isAhead rfl hk3 rfl rfl (Nat.le_of_ble_eq_true rfl) (ao_hR (by omega) (by decide)) ?_
          refine ao_if_eq 35 dX0_maskAhead_25 (by decide) (fun c5 => ?_) (fun c5 => ?_)
          · replace h := ao_ifT h c5
            exact ih.2.2 r0 x1 x2 x3 x4 p4.2 _ h
          · replace h := ao_ifF h c5
            refine ao_iload_n 3 dX0_maskAhead_28 rfl rfl ?_
            refine ao_iconst (v := 1) dX0_maskAhead_29 (by decide) ?_
            refine ao_iload 4 dX0_maskAhead_30 rfl ?_
            refine ao_ishl dX0_maskAhead_32 ?_
            refine ao_ior dX0_maskAhead_33 ?_
            refine an_topi (fun v6 hv6 => ?_)
            replace h := ao_letD h hv6
            refine ao_istore_n 3 (lo' := [some (.ref (Γ.2.2.2 + r0)), some (.int x1), some (.int x2), some (.int v6), some (.int x4)]) dX0_maskAhead_34 rfl (Nat.le_of_ble_eq_true rfl) rfl ?_
            exact ih.2.2 r0 x1 x2 v6 x4 p4.2 _ h
    · intro r0 x1 x2 x3 x4 M y h
      replace h := ao_ifF h (by decide)
      replace h := ao_ifF h (by decide)
      replace h := ao_ifT h rfl
      obtain ⟨v7, hv7⟩ : ∃ z : Int32, z = x4 + (1 : Int32) := ⟨_, rfl⟩
      replace h := ao_letD h hv7
      refine ao_iinc 4 (v := v7) (lo' := [some (.ref (Γ.2.2.2 + r0)), some (.int x1), some (.int x2), some (.int x3), some (.int v7)]) dX0_maskAhead_35 rfl (by rw [hv7]; rfl) (Nat.le_of_ble_eq_true rfl) rfl ?_
      refine ao_goto 5 dX0_maskAhead_38 (by decide) ?_
      exact ih.2.1 r0 x1 x2 x3 v7 M _ h
set_option maxRecDepth 100000 in
set_option maxHeartbeats 4000000 in
theorem aX0_maskAhead {Γ : ao_C} (d : Nat) (hd : 1 ≤ d) (n : Nat) (r0 : Nat) (x1 : Int32) (x2 : Int32) (M : ao_M) (ρ : ao_H) {y : Int32 × ao_M} (h : gX0_maskAhead n r0 x1 x2 M ρ = some y) : ao_A Γ uX0_maskAhead d 0 0 [.ref (Γ.2.2.2 + r0), .int x1, .int x2] (M, ρ) (ao_PI ρ y) := by
  refine ao_of (by decide) (ao_cat1 (Nat.le_of_ble_eq_true rfl)) (Nat.le_of_ble_eq_true rfl) ?_
  show ao_W Γ uX0_maskAhead (ao_rm d 0 0) (ao_Q Γ (ao_PI ρ y) 0 0) 0 0 0 [some (.ref (Γ.2.2.2 + r0)), some (.int x1), some (.int x2), none, none] [] (M, ρ)
  exact (wX0_maskAhead d hd n).1 r0 x1 x2 M y h

abbrev uX2_tellOf : ao_Mi := (yX2_tellOf, cX2_tellOf, 2, (some .int), [])
def gX2_tellOf (n : Nat) (r0 : Nat) (x1 : Int32) (M : ao_M) (ρ : ao_H) : Option (Int32 × ao_M) :=
  if x1 = (1 : Int32) then
    if ρ.2.1 r0 = 12 then
    some ((M r0 5), M)
    else none
  else
    if x1 = (2 : Int32) then
      if ρ.2.1 r0 = 12 then
      (ρ.1 r0 0).bind fun j5 =>
      if ρ.2.1 j5 = 15 then
      some ((M j5 4), M)
      else none
      else none
    else
      if x1 = (3 : Int32) then
        if ρ.2.1 r0 = 12 then
        some ((M r0 4), M)
        else none
      else
        if x1 = (4 : Int32) then
          if ρ.2.1 r0 = 12 then
          (ρ.1 r0 2).bind fun j11 =>
          if ρ.2.1 j11 = 18 then
          some ((M j11 2), M)
          else none
          else none
        else
          if x1 = (5 : Int32) then
            if ρ.2.1 r0 = 12 then
            (ρ.1 r0 3).bind fun j15 =>
            if ρ.2.1 j15 = 16 then
            some ((M j15 9), M)
            else none
            else none
          else
            if x1 = (6 : Int32) then
              if ρ.2.1 r0 = 12 then
              (gX2_howManyAre n r0 (2 : Int32) M ρ).bind fun p19 =>
              some (p19.1, p19.2)
              else none
            else
              if x1 = (7 : Int32) then
                if ρ.2.1 r0 = 12 then
                (gX2_howManyAre n r0 (3 : Int32) M ρ).bind fun p22 =>
                some (p22.1, p22.2)
                else none
              else
                if ρ.2.1 r0 = 12 then
                (ρ.1 r0 0).bind fun j24 =>
                if ρ.2.1 j24 = 15 then
                (gX5_howManyTaken n j24 M ρ).bind fun p26 =>
                some (p26.1, p26.2)
                else none
                else none
set_option maxRecDepth 100000 in
set_option maxHeartbeats 4000000 in
theorem aX2_tellOf {Γ : ao_C} (d : Nat) (hd : 1 ≤ d) (n : Nat) (r0 : Nat) (x1 : Int32) (M : ao_M) (ρ : ao_H) {y : Int32 × ao_M} (h : gX2_tellOf n r0 x1 M ρ = some y) : ao_A Γ uX2_tellOf d 0 0 [.ref (Γ.2.2.2 + r0), .int x1] (M, ρ) (ao_PI ρ y) := by
  refine ao_of (by decide) (ao_cat1 (Nat.le_of_ble_eq_true rfl)) (Nat.le_of_ble_eq_true rfl) ?_
  show ao_W Γ uX2_tellOf (ao_rm d 0 0) (ao_Q Γ (ao_PI ρ y) 0 0) 0 0 0 [some (.ref (Γ.2.2.2 + r0)), some (.int x1)] [] (M, ρ)
  unfold gX2_tellOf at h
  refine ao_iload_n 1 dX2_tellOf_0 rfl rfl ?_
  by_cases c1 : x1 = (1 : Int32)
  · replace h := ao_ifT h c1
    refine ao_tableIn 44 dX2_tellOf_1 (by rw [c1]; decide) (by rw [c1]; decide) (by rw [c1]; rfl) (by decide) ?_
    refine ao_aload_n 0 dX2_tellOf_44 rfl rfl ?_
    obtain ⟨hk2, h⟩ := ao_some h
    refine an_getI r0 2 5 (q := (RX2, TX2, 7)) dX2_tellOf_45 rfl hk2 (Nat.le_of_ble_eq_true rfl) rfl lf_X2_41 ?_
    cases h
    exact ao_ireturn dX2_tellOf_48 rfl rfl ⟨rfl, rfl⟩
  · replace h := ao_ifF h c1
    by_cases c3 : x1 = (2 : Int32)
    · replace h := ao_ifT h c3
      refine ao_tableIn 49 dX2_tellOf_1 (by rw [c3]; decide) (by rw [c3]; decide) (by rw [c3]; rfl) (by decide) ?_
      refine ao_aload_n 0 dX2_tellOf_49 rfl rfl ?_
      obtain ⟨hk4, h⟩ := ao_some h
      obtain ⟨j5, hj5, h⟩ := ao_bind h
      refine an_getR r0 2 0 (q := (RX2, TX2, 7)) dX2_tellOf_50 rfl hk4 (Nat.le_of_ble_eq_true rfl) rfl lf_X2_12 hj5 ?_
      obtain ⟨hk6, h⟩ := ao_some h
      refine an_getI j5 5 4 (q := (RX5, TX5, 11)) dX2_tellOf_53 rfl hk6 (Nat.le_of_ble_eq_true rfl) rfl lf_X2_61 ?_
      cases h
      exact ao_ireturn dX2_tellOf_56 rfl rfl ⟨rfl, rfl⟩
    · replace h := ao_ifF h c3
      by_cases c7 : x1 = (3 : Int32)
      · replace h := ao_ifT h c7
        refine ao_tableIn 57 dX2_tellOf_1 (by rw [c7]; decide) (by rw [c7]; decide) (by rw [c7]; rfl) (by decide) ?_
        refine ao_aload_n 0 dX2_tellOf_57 rfl rfl ?_
        obtain ⟨hk8, h⟩ := ao_some h
        refine an_getI r0 2 4 (q := (RX2, TX2, 7)) dX2_tellOf_58 rfl hk8 (Nat.le_of_ble_eq_true rfl) rfl lf_X2_45 ?_
        cases h
        exact ao_ireturn dX2_tellOf_61 rfl rfl ⟨rfl, rfl⟩
      · replace h := ao_ifF h c7
        by_cases c9 : x1 = (4 : Int32)
        · replace h := ao_ifT h c9
          refine ao_tableIn 62 dX2_tellOf_1 (by rw [c9]; decide) (by rw [c9]; decide) (by rw [c9]; rfl) (by decide) ?_
          refine ao_aload_n 0 dX2_tellOf_62 rfl rfl ?_
          obtain ⟨hk10, h⟩ := ao_some h
          obtain ⟨j11, hj11, h⟩ := ao_bind h
          refine an_getR r0 2 2 (q := (RX2, TX2, 7)) dX2_tellOf_63 rfl hk10 (Nat.le_of_ble_eq_true rfl) rfl lf_X2_21 hj11 ?_
          obtain ⟨hk12, h⟩ := ao_some h
          refine an_getI j11 8 2 (q := (RX8, TX8, 3)) dX2_tellOf_66 rfl hk12 (Nat.le_of_ble_eq_true rfl) rfl lf_X2_51 ?_
          cases h
          exact ao_ireturn dX2_tellOf_69 rfl rfl ⟨rfl, rfl⟩
        · replace h := ao_ifF h c9
          by_cases c13 : x1 = (5 : Int32)
          · replace h := ao_ifT h c13
            refine ao_tableIn 70 dX2_tellOf_1 (by rw [c13]; decide) (by rw [c13]; decide) (by rw [c13]; rfl) (by decide) ?_
            refine ao_aload_n 0 dX2_tellOf_70 rfl rfl ?_
            obtain ⟨hk14, h⟩ := ao_some h
            obtain ⟨j15, hj15, h⟩ := ao_bind h
            refine an_getR r0 2 3 (q := (RX2, TX2, 7)) dX2_tellOf_71 rfl hk14 (Nat.le_of_ble_eq_true rfl) rfl lf_X2_28 hj15 ?_
            obtain ⟨hk16, h⟩ := ao_some h
            refine an_getI j15 6 9 (q := (RX6, TX6, 11)) dX2_tellOf_74 rfl hk16 (Nat.le_of_ble_eq_true rfl) rfl lf_X2_64 ?_
            cases h
            exact ao_ireturn dX2_tellOf_77 rfl rfl ⟨rfl, rfl⟩
          · replace h := ao_ifF h c13
            by_cases c17 : x1 = (6 : Int32)
            · replace h := ao_ifT h c17
              refine ao_tableIn 78 dX2_tellOf_1 (by rw [c17]; decide) (by rw [c17]; decide) (by rw [c17]; rfl) (by decide) ?_
              refine ao_aload_n 0 dX2_tellOf_78 rfl rfl ?_
              refine ao_iconst (v := 2) dX2_tellOf_79 (by decide) ?_
              obtain ⟨hk18, h⟩ := ao_some h
              obtain ⟨p19, hp19, h⟩ := ao_bind h
              refine an_callVi r0 2 (q := (RX2, TX2, 7)) [.int (2 : Int32)] (aX2_howManyAre (d - 1) (by omega) _ r0 (2 : Int32) M ρ hp19) dX2_tellOf_80 lc_X2_65 li_X2_howManyAre ls_X2_howManyAre rfl hk18 rfl rfl (Nat.le_of_ble_eq_true rfl) (ao_hR (by omega) (by decide)) ?_
              cases h
              exact ao_ireturn dX2_tellOf_83 rfl rfl ⟨rfl, rfl⟩
            · replace h := ao_ifF h c17
              by_cases c20 : x1 = (7 : Int32)
              · replace h := ao_ifT h c20
                refine ao_tableIn 84 dX2_tellOf_1 (by rw [c20]; decide) (by rw [c20]; decide) (by rw [c20]; rfl) (by decide) ?_
                refine ao_aload_n 0 dX2_tellOf_84 rfl rfl ?_
                refine ao_iconst (v := 3) dX2_tellOf_85 (by decide) ?_
                obtain ⟨hk21, h⟩ := ao_some h
                obtain ⟨p22, hp22, h⟩ := ao_bind h
                refine an_callVi r0 2 (q := (RX2, TX2, 7)) [.int (3 : Int32)] (aX2_howManyAre (d - 1) (by omega) _ r0 (3 : Int32) M ρ hp22) dX2_tellOf_86 lc_X2_65 li_X2_howManyAre ls_X2_howManyAre rfl hk21 rfl rfl (Nat.le_of_ble_eq_true rfl) (ao_hR (by omega) (by decide)) ?_
                cases h
                exact ao_ireturn dX2_tellOf_89 rfl rfl ⟨rfl, rfl⟩
              · replace h := ao_ifF h c20
                refine ao_tableOut 90 dX2_tellOf_1 (by have nc1 := ao_ne (z := 1) c1 (by decide); have nc3 := ao_ne (z := 2) c3 (by decide); have nc7 := ao_ne (z := 3) c7 (by decide); have nc9 := ao_ne (z := 4) c9 (by decide); have nc13 := ao_ne (z := 5) c13 (by decide); have nc17 := ao_ne (z := 6) c17 (by decide); have nc20 := ao_ne (z := 7) c20 (by decide); omega) (by decide) ?_
                refine ao_aload_n 0 dX2_tellOf_90 rfl rfl ?_
                obtain ⟨hk23, h⟩ := ao_some h
                obtain ⟨j24, hj24, h⟩ := ao_bind h
                refine an_getR r0 2 0 (q := (RX2, TX2, 7)) dX2_tellOf_91 rfl hk23 (Nat.le_of_ble_eq_true rfl) rfl lf_X2_12 hj24 ?_
                obtain ⟨hk25, h⟩ := ao_some h
                obtain ⟨p26, hp26, h⟩ := ao_bind h
                refine an_callVi j24 5 (q := (RX5, TX5, 11)) [] (aX5_howManyTaken (d - 1) (by omega) _ j24 M ρ hp26) dX2_tellOf_94 lc_X2_69 li_X5_howManyTaken ls_X5_howManyTaken rfl hk25 rfl rfl (Nat.le_of_ble_eq_true rfl) (ao_hR (by omega) (by decide)) ?_
                cases h
                exact ao_ireturn dX2_tellOf_97 rfl rfl ⟨rfl, rfl⟩
